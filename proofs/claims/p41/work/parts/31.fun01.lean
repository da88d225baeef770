/-! X6_readAct -/
noncomputable def g_X6_readAct_b516 (h : jw_H) (t0 : Int32) : Option (Int32 × jw_H) :=
 (jw_rb t0).bind fun v1 =>
 some (t0, h)

noncomputable def g_X6_readAct_b511 (h : jw_H)  : Option (Int32 × jw_H) :=
 g_X6_readAct_b516  h (1 : Int32)

noncomputable def g_X6_readAct_b475 (h : jw_H) (x0 : Nat) (x1 : Option Nat) (x3 : Int32) : Option (Int32 × jw_H) :=
 (jw_gI h 6 (some x0) 5).bind fun v1 =>
 (jw_pI h 6 (some x0) 5 (v1 + (1 : Int32))).bind fun h2 =>
 (jw_rc h2 6 (some x0)).bind fun a3 =>
 jw_b2 (f_X6_readFrom h2 a3 (65 : Int32) (90 : Int32)) fun w5 h4 =>
 (jw_pI h4 5 x1 5 w5).bind fun h6 =>
 (jw_gI h6 5 x1 5).bind fun v7 =>
 if v7 = (-1 : Int32) then (if x3 = (58 : Int32) then (g_X6_readAct_b516  h6 (0 : Int32))
 else (g_X6_readAct_b511  h6 ))
 else (g_X6_readAct_b511  h6 )

noncomputable def g_X6_readAct_b383 (h : jw_H) (t0 : Int32) : Option (Int32 × jw_H) :=
 (jw_rb t0).bind fun v1 =>
 some (t0, h)

noncomputable def g_X6_readAct_b352 (h : jw_H) (x0 : Nat) (x1 : Option Nat) : Option (Int32 × jw_H) :=
 (jw_gI h 6 (some x0) 5).bind fun v1 =>
 (jw_pI h 6 (some x0) 5 (v1 + (1 : Int32))).bind fun h2 =>
 (jw_rc h2 6 (some x0)).bind fun a3 =>
 jw_b2 (f_X6_readNumber h2 a3) fun w5 h4 =>
 (jw_pI h4 5 x1 5 w5).bind fun h6 =>
 (jw_gI h6 5 x1 5).bind fun v7 =>
 if v7 = (-1 : Int32) then (g_X6_readAct_b383  h6 (0 : Int32))
 else (g_X6_readAct_b383  h6 (1 : Int32))

noncomputable def g_X6_readAct_b340 (h : jw_H) (x0 : Nat) : Option (Int32 × jw_H) :=
 (jw_gI h 6 (some x0) 5).bind fun v1 =>
 (jw_pI h 6 (some x0) 5 (v1 + (1 : Int32))).bind fun h2 =>
 some ((1 : Int32), h2)

noncomputable def g_X6_readAct_b549 (h : jw_H) (x0 : Nat) (x1 : Option Nat) : Option (Int32 × jw_H) :=
 (jw_gI h 6 (some x0) 5).bind fun v1 =>
 (jw_pI h 6 (some x0) 5 (v1 + (1 : Int32))).bind fun h2 =>
 (jw_rc h2 6 (some x0)).bind fun a3 =>
 jw_b2 (f_X6_readPatternOf h2 a3 x1) fun w5 h4 =>
 (jw_rb w5).bind fun v6 =>
 some (w5, h4)

noncomputable def g_X6_readAct_b324 (h : jw_H) (x0 : Nat) (x1 : Option Nat) : Option (Int32 × jw_H) :=
 (jw_gI h 6 (some x0) 5).bind fun v1 =>
 (jw_pI h 6 (some x0) 5 (v1 + (1 : Int32))).bind fun h2 =>
 (jw_rc h2 6 (some x0)).bind fun a3 =>
 jw_b2 (f_X6_readRows h2 a3 x1) fun w5 h4 =>
 (jw_rb w5).bind fun v6 =>
 some (w5, h4)

noncomputable def g_X6_readAct_b438 (h : jw_H) (t0 : Int32) : Option (Int32 × jw_H) :=
 (jw_rb t0).bind fun v1 =>
 some (t0, h)

noncomputable def g_X6_readAct_b384 (h : jw_H) (x0 : Nat) (x1 : Option Nat) : Option (Int32 × jw_H) :=
 (jw_gI h 6 (some x0) 5).bind fun v1 =>
 (jw_pI h 6 (some x0) 5 (v1 + (1 : Int32))).bind fun h2 =>
 (jw_gR h2 5 x1 2).bind fun v3 =>
 (jw_rc h2 6 (some x0)).bind fun a4 =>
 jw_b2 (f_X6_readAddress h2 a4 v3) fun w6 h5 =>
 (jw_rb w6).bind fun v7 =>
 some (w6, h5)

noncomputable def g_X6_readAct_b474 (h : jw_H) (t0 : Int32) : Option (Int32 × jw_H) :=
 (jw_rb t0).bind fun v1 =>
 some (t0, h)

noncomputable def g_X6_readAct_b439 (h : jw_H) (x0 : Nat) (x1 : Option Nat) : Option (Int32 × jw_H) :=
 (jw_gI h 6 (some x0) 5).bind fun v1 =>
 (jw_pI h 6 (some x0) 5 (v1 + (1 : Int32))).bind fun h2 =>
 (jw_rc h2 6 (some x0)).bind fun a3 =>
 jw_b2 (f_X6_readFrom h2 a3 (48 : Int32) (51 : Int32)) fun w5 h4 =>
 (jw_pI h4 5 x1 5 w5).bind fun h6 =>
 (jw_gI h6 5 x1 5).bind fun v7 =>
 if v7 = (-1 : Int32) then (g_X6_readAct_b474  h6 (0 : Int32))
 else (g_X6_readAct_b474  h6 (1 : Int32))

noncomputable def g_X6_readAct_b43 (h : jw_H) (x0 : Nat) (x1 : Option Nat) (x3 : Int32) : Option (Int32 × jw_H) :=
 if x3 = (58 : Int32) then (g_X6_readAct_b475  h x0 x1 x3)
 else (if x3 = (59 : Int32) then (some ((0 : Int32), h))
 else (if x3 = (60 : Int32) then (g_X6_readAct_b352  h x0 x1)
 else (if x3 = (61 : Int32) then (g_X6_readAct_b340  h x0)
 else (if x3 = (62 : Int32) then (g_X6_readAct_b352  h x0 x1)
 else (if x3 = (63 : Int32) then (some ((0 : Int32), h))
 else (if x3 = (64 : Int32) then (some ((0 : Int32), h))
 else (if x3 = (65 : Int32) then (some ((0 : Int32), h))
 else (if x3 = (66 : Int32) then (some ((0 : Int32), h))
 else (if x3 = (67 : Int32) then (some ((0 : Int32), h))
 else (if x3 = (68 : Int32) then (some ((0 : Int32), h))
 else (if x3 = (69 : Int32) then (some ((0 : Int32), h))
 else (if x3 = (70 : Int32) then (some ((0 : Int32), h))
 else (if x3 = (71 : Int32) then (g_X6_readAct_b549  h x0 x1)
 else (if x3 = (72 : Int32) then (g_X6_readAct_b340  h x0)
 else (if x3 = (73 : Int32) then (some ((0 : Int32), h))
 else (if x3 = (74 : Int32) then (some ((0 : Int32), h))
 else (if x3 = (75 : Int32) then (some ((0 : Int32), h))
 else (if x3 = (76 : Int32) then (some ((0 : Int32), h))
 else (if x3 = (77 : Int32) then (some ((0 : Int32), h))
 else (if x3 = (78 : Int32) then (g_X6_readAct_b340  h x0)
 else (if x3 = (79 : Int32) then (g_X6_readAct_b352  h x0 x1)
 else (if x3 = (80 : Int32) then (some ((0 : Int32), h))
 else (if x3 = (81 : Int32) then (some ((0 : Int32), h))
 else (if x3 = (82 : Int32) then (some ((0 : Int32), h))
 else (if x3 = (83 : Int32) then (some ((0 : Int32), h))
 else (if x3 = (84 : Int32) then (g_X6_readAct_b475  h x0 x1 x3)
 else (if x3 = (85 : Int32) then (some ((0 : Int32), h))
 else (if x3 = (86 : Int32) then (some ((0 : Int32), h))
 else (if x3 = (87 : Int32) then (some ((0 : Int32), h))
 else (if x3 = (88 : Int32) then (some ((0 : Int32), h))
 else (if x3 = (89 : Int32) then (some ((0 : Int32), h))
 else (if x3 = (90 : Int32) then (some ((0 : Int32), h))
 else (if x3 = (91 : Int32) then (some ((0 : Int32), h))
 else (if x3 = (92 : Int32) then (some ((0 : Int32), h))
 else (if x3 = (93 : Int32) then (some ((0 : Int32), h))
 else (if x3 = (94 : Int32) then (some ((0 : Int32), h))
 else (if x3 = (95 : Int32) then (some ((0 : Int32), h))
 else (if x3 = (96 : Int32) then (some ((0 : Int32), h))
 else (if x3 = (97 : Int32) then (g_X6_readAct_b324  h x0 x1)
 else (if x3 = (98 : Int32) then (g_X6_readAct_b475  h x0 x1 x3)
 else (if x3 = (99 : Int32) then (g_X6_readAct_b324  h x0 x1)
 else (if x3 = (100 : Int32) then (g_X6_readAct_b340  h x0)
 else (if x3 = (101 : Int32) then (g_X6_readAct_b340  h x0)
 else (if x3 = (102 : Int32) then (some ((0 : Int32), h))
 else (if x3 = (103 : Int32) then (g_X6_readAct_b549  h x0 x1)
 else (if x3 = (104 : Int32) then (g_X6_readAct_b340  h x0)
 else (if x3 = (105 : Int32) then (g_X6_readAct_b324  h x0 x1)
 else (if x3 = (106 : Int32) then (g_X6_readAct_b340  h x0)
 else (if x3 = (107 : Int32) then ((jw_gI h 6 (some x0) 5).bind fun v51 =>
 (jw_pI h 6 (some x0) 5 (v51 + (1 : Int32))).bind fun h52 =>
 (jw_rc h52 6 (some x0)).bind fun a53 =>
 jw_b2 (f_X6_readFrom h52 a53 (97 : Int32) (101 : Int32)) fun w55 h54 =>
 (jw_pI h54 5 x1 5 w55).bind fun h56 =>
 (jw_gI h56 5 x1 5).bind fun v57 =>
 if v57 = (-1 : Int32) then (g_X6_readAct_b438  h56 (0 : Int32))
 else (g_X6_readAct_b438  h56 (1 : Int32)))
 else (if x3 = (108 : Int32) then (g_X6_readAct_b340  h x0)
 else (if x3 = (109 : Int32) then (g_X6_readAct_b384  h x0 x1)
 else (if x3 = (110 : Int32) then (g_X6_readAct_b340  h x0)
 else (if x3 = (111 : Int32) then (g_X6_readAct_b352  h x0 x1)
 else (if x3 = (112 : Int32) then (g_X6_readAct_b340  h x0)
 else (if x3 = (113 : Int32) then (g_X6_readAct_b340  h x0)
 else (if x3 = (114 : Int32) then (g_X6_readAct_b439  h x0 x1)
 else (if x3 = (115 : Int32) then ((jw_gI h 6 (some x0) 5).bind fun v67 =>
 (jw_pI h 6 (some x0) 5 (v67 + (1 : Int32))).bind fun h68 =>
 (jw_rc h68 6 (some x0)).bind fun a69 =>
 jw_b2 (f_X6_readReplace h68 a69 x1) fun w71 h70 =>
 (jw_rb w71).bind fun v72 =>
 some (w71, h70))
 else (if x3 = (116 : Int32) then (g_X6_readAct_b384  h x0 x1)
 else (if x3 = (117 : Int32) then (g_X6_readAct_b340  h x0)
 else (if x3 = (118 : Int32) then (g_X6_readAct_b352  h x0 x1)
 else (if x3 = (119 : Int32) then (g_X6_readAct_b439  h x0 x1)
 else (if x3 = (120 : Int32) then (some ((0 : Int32), h))
 else (if x3 = (121 : Int32) then (some ((0 : Int32), h))
 else (if x3 = (122 : Int32) then ((jw_gI h 6 (some x0) 5).bind fun v80 =>
 (jw_pI h 6 (some x0) 5 (v80 + (1 : Int32))).bind fun h81 =>
 (jw_rc h81 6 (some x0)).bind fun a82 =>
 jw_b2 (f_X6_readTurn h81 a82 x1) fun w84 h83 =>
 (jw_rb w84).bind fun v85 =>
 some (w84, h83))
 else (if x3 = (123 : Int32) then (g_X6_readAct_b340  h x0)
 else (some ((0 : Int32), h)))))))))))))))))))))))))))))))))))))))))))))))))))))))))))))))))))

noncomputable def g_X6_readAct_b28 (h : jw_H) (x0 : Nat) (x1 : Option Nat) (x3 : Int32) : Option (Int32 × jw_H) :=
 if x3 = (58 : Int32) then ((jw_gI h 5 x1 4).bind fun v2 =>
 if v2 = 0 then (g_X6_readAct_b43  h x0 x1 x3)
 else (some ((0 : Int32), h)))
 else (g_X6_readAct_b43  h x0 x1 x3)

noncomputable def f_X6_readAct (h : jw_H) (x0 : Nat) (x1 : Option Nat) (x2 : Int32) : Option (Int32 × jw_H) :=
 (jw_rc h 6 (some x0)).bind fun a1 =>
 jw_b2 (f_X6_peek h a1) fun w3 h2 =>
 (jw_pI h2 5 x1 3 w3).bind fun h4 =>
 if x2 = 0 then (g_X6_readAct_b28  h4 x0 x1 w3)
 else ((jw_rc h4 5 x1).bind fun a6 =>
 jw_b2 (f_X5_holdsOthers h4 a6) fun w8 h7 =>
 if w8 = 0 then ((jw_rc h7 5 x1).bind fun a10 =>
 jw_b2 (f_X5_steers h7 a10) fun w12 h11 =>
 if w12 = 0 then (g_X6_readAct_b28  h11 x0 x1 w3)
 else (some ((0 : Int32), h11)))
 else (some ((0 : Int32), h7)))

set_option maxRecDepth 100000 in
set_option maxHeartbeats 4000000 in
theorem l_X6_readAct_b516 {hi : jw_H} {h : jw_H} {t0 : Int32} {r : Int32} {h' : jw_H} (hq : g_X6_readAct_b516  h t0 = some (r, h')) : jw_E 4 uX6_readAct hi 516 [none, none, none, none] [.int t0] h (.inl (some (.int r))) h' := by
  unfold g_X6_readAct_b516 at hq
  obtain ⟨v1, ev1, hq⟩ := Option.bind_eq_some_iff.mp hq
  cases hq
  exact jw_iret (ty := .boolean) dX6_readAct_516 rfl (jw_rb_spec ev1)

set_option maxRecDepth 100000 in
set_option maxHeartbeats 4000000 in
theorem l_X6_readAct_b511 {hi : jw_H} {h : jw_H}  {r : Int32} {h' : jw_H} (hq : g_X6_readAct_b511  h  = some (r, h')) : jw_E 4 uX6_readAct hi 511 [none, none, none, none] [] h (.inl (some (.int r))) h' := by
  unfold g_X6_readAct_b511 at hq
  refine jw_iconst dX6_readAct_511 (v := (1 : Int32)) (by decide) ?_
  refine jw_goto (tgt := 516) dX6_readAct_512 (by decide) ?_
  exact l_X6_readAct_b516  hq

set_option maxRecDepth 100000 in
set_option maxHeartbeats 4000000 in
theorem l_X6_readAct_b475 {hi : jw_H} {h : jw_H} {x0 : Nat} {x1 : Option Nat} {x3 : Int32} {r : Int32} {h' : jw_H} (hq : g_X6_readAct_b475  h x0 x1 x3 = some (r, h')) : jw_E 4 uX6_readAct hi 475 [some (.ref x0), some (va_rf x1), none, some (.int x3)] [] h (.inl (some (.int r))) h' := by
  unfold g_X6_readAct_b475 at hq
  refine jw_aload_n dX6_readAct_475 (o := (some x0)) rfl ?_
  refine jw_dup dX6_readAct_476 rfl ?_
  obtain ⟨v1, ev1, hq⟩ := Option.bind_eq_some_iff.mp hq
  refine jw_getI (o := (some x0)) dX6_readAct_477 ev1 fl_X6_43 rfl ?_
  refine jw_iconst dX6_readAct_480 (v := (1 : Int32)) (by decide) ?_
  refine jw_iadd dX6_readAct_481 ?_
  obtain ⟨h2, eh2, hq⟩ := Option.bind_eq_some_iff.mp hq
  refine jw_putI (o := (some x0)) dX6_readAct_482 eh2 fl_X6_43 rfl rfl ?_
  refine jw_aload_n dX6_readAct_485 (o := x1) rfl ?_
  refine jw_aload_n dX6_readAct_486 (o := (some x0)) rfl ?_
  refine jw_bipush dX6_readAct_487 (v := (65 : Int32)) (by decide) ?_
  refine jw_bipush dX6_readAct_489 (v := (90 : Int32)) (by decide) ?_
  obtain ⟨a3, ea3, hq⟩ := Option.bind_eq_some_iff.mp hq
  obtain ⟨eoa3, eta3⟩ := jw_rc_spec ea3
  obtain ⟨w5, h4, ew5, hq⟩ := jw_b2_spec hq
  refine jw_callV (As := [.int (65 : Int32), .int (90 : Int32)]) (S := [va_rf x1]) (a := a3) (v := some (.int w5)) dX6_readAct_491 mt_X6_readFrom in_X6_readFrom se_X6_readFrom lk_X6_121 (c_X6_readFrom ew5) eta3 (by decide) rfl rfl (by decide) (by simp only [List.map_cons, List.map_nil, List.sum_cons, List.sum_nil, jw_cat_rf, jw_cat_i, jw_cat_l, jw_cat_a, jw_cat_s] <;> decide) (by cases eoa3; rfl) ?_
  obtain ⟨h6, eh6, hq⟩ := Option.bind_eq_some_iff.mp hq
  refine jw_putI (o := x1) dX6_readAct_494 eh6 fl_X6_140 rfl rfl ?_
  refine jw_aload_n dX6_readAct_497 (o := x1) rfl ?_
  obtain ⟨v7, ev7, hq⟩ := Option.bind_eq_some_iff.mp hq
  refine jw_getI (o := x1) dX6_readAct_498 ev7 fl_X6_140 rfl ?_
  refine jw_iconst dX6_readAct_501 (v := (-1 : Int32)) (by decide) ?_
  rcases jw_if hq with ⟨c8, hq⟩ | ⟨c8, hq⟩
  · refine jw_icmp_ne_f (tgt := 511) dX6_readAct_502 (by decide) c8 ?_
    refine jw_iload_n dX6_readAct_505 rfl ?_
    refine jw_bipush dX6_readAct_506 (v := (58 : Int32)) (by decide) ?_
    rcases jw_if hq with ⟨c9, hq⟩ | ⟨c9, hq⟩
    · refine jw_icmp_eq_t (tgt := 515) dX6_readAct_508 (by decide) c9 ?_
      refine jw_iconst dX6_readAct_515 (v := (0 : Int32)) (by decide) ?_
      refine jw_forget [false, false, true, false] (L' := [none, none, none, none]) rfl ?_
      exact l_X6_readAct_b516  hq
    · refine jw_icmp_eq_f (tgt := 515) dX6_readAct_508 (by decide) c9 ?_
      refine jw_forget [false, false, true, false] (L' := [none, none, none, none]) rfl ?_
      exact l_X6_readAct_b511  hq
  · refine jw_icmp_ne_t (tgt := 511) dX6_readAct_502 (by decide) c8 ?_
    refine jw_forget [false, false, true, false] (L' := [none, none, none, none]) rfl ?_
    exact l_X6_readAct_b511  hq

set_option maxRecDepth 100000 in
set_option maxHeartbeats 4000000 in
theorem l_X6_readAct_b383 {hi : jw_H} {h : jw_H} {t0 : Int32} {r : Int32} {h' : jw_H} (hq : g_X6_readAct_b383  h t0 = some (r, h')) : jw_E 4 uX6_readAct hi 383 [none, none, none, none] [.int t0] h (.inl (some (.int r))) h' := by
  unfold g_X6_readAct_b383 at hq
  obtain ⟨v1, ev1, hq⟩ := Option.bind_eq_some_iff.mp hq
  cases hq
  exact jw_iret (ty := .boolean) dX6_readAct_383 rfl (jw_rb_spec ev1)

set_option maxRecDepth 100000 in
set_option maxHeartbeats 4000000 in
theorem l_X6_readAct_b352 {hi : jw_H} {h : jw_H} {x0 : Nat} {x1 : Option Nat} {r : Int32} {h' : jw_H} (hq : g_X6_readAct_b352  h x0 x1 = some (r, h')) : jw_E 4 uX6_readAct hi 352 [some (.ref x0), some (va_rf x1), none, none] [] h (.inl (some (.int r))) h' := by
  unfold g_X6_readAct_b352 at hq
  refine jw_aload_n dX6_readAct_352 (o := (some x0)) rfl ?_
  refine jw_dup dX6_readAct_353 rfl ?_
  obtain ⟨v1, ev1, hq⟩ := Option.bind_eq_some_iff.mp hq
  refine jw_getI (o := (some x0)) dX6_readAct_354 ev1 fl_X6_43 rfl ?_
  refine jw_iconst dX6_readAct_357 (v := (1 : Int32)) (by decide) ?_
  refine jw_iadd dX6_readAct_358 ?_
  obtain ⟨h2, eh2, hq⟩ := Option.bind_eq_some_iff.mp hq
  refine jw_putI (o := (some x0)) dX6_readAct_359 eh2 fl_X6_43 rfl rfl ?_
  refine jw_aload_n dX6_readAct_362 (o := x1) rfl ?_
  refine jw_aload_n dX6_readAct_363 (o := (some x0)) rfl ?_
  obtain ⟨a3, ea3, hq⟩ := Option.bind_eq_some_iff.mp hq
  obtain ⟨eoa3, eta3⟩ := jw_rc_spec ea3
  obtain ⟨w5, h4, ew5, hq⟩ := jw_b2_spec hq
  refine jw_callV (As := []) (S := [va_rf x1]) (a := a3) (v := some (.int w5)) dX6_readAct_364 mt_X6_readNumber in_X6_readNumber se_X6_readNumber lk_X6_115 (c_X6_readNumber ew5) eta3 (by decide) rfl rfl (by decide) (by simp only [List.map_cons, List.map_nil, List.sum_cons, List.sum_nil, jw_cat_rf, jw_cat_i, jw_cat_l, jw_cat_a, jw_cat_s] <;> decide) (by cases eoa3; rfl) ?_
  obtain ⟨h6, eh6, hq⟩ := Option.bind_eq_some_iff.mp hq
  refine jw_putI (o := x1) dX6_readAct_367 eh6 fl_X6_140 rfl rfl ?_
  refine jw_aload_n dX6_readAct_370 (o := x1) rfl ?_
  obtain ⟨v7, ev7, hq⟩ := Option.bind_eq_some_iff.mp hq
  refine jw_getI (o := x1) dX6_readAct_371 ev7 fl_X6_140 rfl ?_
  refine jw_iconst dX6_readAct_374 (v := (-1 : Int32)) (by decide) ?_
  rcases jw_if hq with ⟨c8, hq⟩ | ⟨c8, hq⟩
  · refine jw_icmp_eq_t (tgt := 382) dX6_readAct_375 (by decide) c8 ?_
    refine jw_iconst dX6_readAct_382 (v := (0 : Int32)) (by decide) ?_
    refine jw_forget [false, false, true, true] (L' := [none, none, none, none]) rfl ?_
    exact l_X6_readAct_b383  hq
  · refine jw_icmp_eq_f (tgt := 382) dX6_readAct_375 (by decide) c8 ?_
    refine jw_iconst dX6_readAct_378 (v := (1 : Int32)) (by decide) ?_
    refine jw_goto (tgt := 383) dX6_readAct_379 (by decide) ?_
    refine jw_forget [false, false, true, true] (L' := [none, none, none, none]) rfl ?_
    exact l_X6_readAct_b383  hq

set_option maxRecDepth 100000 in
set_option maxHeartbeats 4000000 in
theorem l_X6_readAct_b340 {hi : jw_H} {h : jw_H} {x0 : Nat} {r : Int32} {h' : jw_H} (hq : g_X6_readAct_b340  h x0 = some (r, h')) : jw_E 4 uX6_readAct hi 340 [some (.ref x0), none, none, none] [] h (.inl (some (.int r))) h' := by
  unfold g_X6_readAct_b340 at hq
  refine jw_aload_n dX6_readAct_340 (o := (some x0)) rfl ?_
  refine jw_dup dX6_readAct_341 rfl ?_
  obtain ⟨v1, ev1, hq⟩ := Option.bind_eq_some_iff.mp hq
  refine jw_getI (o := (some x0)) dX6_readAct_342 ev1 fl_X6_43 rfl ?_
  refine jw_iconst dX6_readAct_345 (v := (1 : Int32)) (by decide) ?_
  refine jw_iadd dX6_readAct_346 ?_
  obtain ⟨h2, eh2, hq⟩ := Option.bind_eq_some_iff.mp hq
  refine jw_putI (o := (some x0)) dX6_readAct_347 eh2 fl_X6_43 rfl rfl ?_
  refine jw_iconst dX6_readAct_350 (v := (1 : Int32)) (by decide) ?_
  cases hq
  exact jw_iret (ty := .boolean) dX6_readAct_351 rfl rfl

set_option maxRecDepth 100000 in
set_option maxHeartbeats 4000000 in
theorem l_X6_readAct_b549 {hi : jw_H} {h : jw_H} {x0 : Nat} {x1 : Option Nat} {r : Int32} {h' : jw_H} (hq : g_X6_readAct_b549  h x0 x1 = some (r, h')) : jw_E 4 uX6_readAct hi 549 [some (.ref x0), some (va_rf x1), none, none] [] h (.inl (some (.int r))) h' := by
  unfold g_X6_readAct_b549 at hq
  refine jw_aload_n dX6_readAct_549 (o := (some x0)) rfl ?_
  refine jw_dup dX6_readAct_550 rfl ?_
  obtain ⟨v1, ev1, hq⟩ := Option.bind_eq_some_iff.mp hq
  refine jw_getI (o := (some x0)) dX6_readAct_551 ev1 fl_X6_43 rfl ?_
  refine jw_iconst dX6_readAct_554 (v := (1 : Int32)) (by decide) ?_
  refine jw_iadd dX6_readAct_555 ?_
  obtain ⟨h2, eh2, hq⟩ := Option.bind_eq_some_iff.mp hq
  refine jw_putI (o := (some x0)) dX6_readAct_556 eh2 fl_X6_43 rfl rfl ?_
  refine jw_aload_n dX6_readAct_559 (o := (some x0)) rfl ?_
  refine jw_aload_n dX6_readAct_560 (o := x1) rfl ?_
  obtain ⟨a3, ea3, hq⟩ := Option.bind_eq_some_iff.mp hq
  obtain ⟨eoa3, eta3⟩ := jw_rc_spec ea3
  obtain ⟨w5, h4, ew5, hq⟩ := jw_b2_spec hq
  refine jw_callV (As := [va_rf x1]) (S := []) (a := a3) (v := some (.int w5)) dX6_readAct_561 mt_X6_readPatternOf in_X6_readPatternOf se_X6_readPatternOf lk_X6_152 (c_X6_readPatternOf ew5) eta3 (by decide) rfl rfl (by decide) (Nat.le_of_ble_eq_true rfl) (by cases eoa3; rfl) ?_
  obtain ⟨v6, ev6, hq⟩ := Option.bind_eq_some_iff.mp hq
  cases hq
  exact jw_iret (ty := .boolean) dX6_readAct_564 rfl (jw_rb_spec ev6)

set_option maxRecDepth 100000 in
set_option maxHeartbeats 4000000 in
theorem l_X6_readAct_b324 {hi : jw_H} {h : jw_H} {x0 : Nat} {x1 : Option Nat} {r : Int32} {h' : jw_H} (hq : g_X6_readAct_b324  h x0 x1 = some (r, h')) : jw_E 4 uX6_readAct hi 324 [some (.ref x0), some (va_rf x1), none, none] [] h (.inl (some (.int r))) h' := by
  unfold g_X6_readAct_b324 at hq
  refine jw_aload_n dX6_readAct_324 (o := (some x0)) rfl ?_
  refine jw_dup dX6_readAct_325 rfl ?_
  obtain ⟨v1, ev1, hq⟩ := Option.bind_eq_some_iff.mp hq
  refine jw_getI (o := (some x0)) dX6_readAct_326 ev1 fl_X6_43 rfl ?_
  refine jw_iconst dX6_readAct_329 (v := (1 : Int32)) (by decide) ?_
  refine jw_iadd dX6_readAct_330 ?_
  obtain ⟨h2, eh2, hq⟩ := Option.bind_eq_some_iff.mp hq
  refine jw_putI (o := (some x0)) dX6_readAct_331 eh2 fl_X6_43 rfl rfl ?_
  refine jw_aload_n dX6_readAct_334 (o := (some x0)) rfl ?_
  refine jw_aload_n dX6_readAct_335 (o := x1) rfl ?_
  obtain ⟨a3, ea3, hq⟩ := Option.bind_eq_some_iff.mp hq
  obtain ⟨eoa3, eta3⟩ := jw_rc_spec ea3
  obtain ⟨w5, h4, ew5, hq⟩ := jw_b2_spec hq
  refine jw_callV (As := [va_rf x1]) (S := []) (a := a3) (v := some (.int w5)) dX6_readAct_336 mt_X6_readRows in_X6_readRows se_X6_readRows lk_X6_137 (c_X6_readRows ew5) eta3 (by decide) rfl rfl (by decide) (Nat.le_of_ble_eq_true rfl) (by cases eoa3; rfl) ?_
  obtain ⟨v6, ev6, hq⟩ := Option.bind_eq_some_iff.mp hq
  cases hq
  exact jw_iret (ty := .boolean) dX6_readAct_339 rfl (jw_rb_spec ev6)

set_option maxRecDepth 100000 in
set_option maxHeartbeats 4000000 in
theorem l_X6_readAct_b438 {hi : jw_H} {h : jw_H} {t0 : Int32} {r : Int32} {h' : jw_H} (hq : g_X6_readAct_b438  h t0 = some (r, h')) : jw_E 4 uX6_readAct hi 438 [none, none, none, none] [.int t0] h (.inl (some (.int r))) h' := by
  unfold g_X6_readAct_b438 at hq
  obtain ⟨v1, ev1, hq⟩ := Option.bind_eq_some_iff.mp hq
  cases hq
  exact jw_iret (ty := .boolean) dX6_readAct_438 rfl (jw_rb_spec ev1)

set_option maxRecDepth 100000 in
set_option maxHeartbeats 4000000 in
theorem l_X6_readAct_b384 {hi : jw_H} {h : jw_H} {x0 : Nat} {x1 : Option Nat} {r : Int32} {h' : jw_H} (hq : g_X6_readAct_b384  h x0 x1 = some (r, h')) : jw_E 4 uX6_readAct hi 384 [some (.ref x0), some (va_rf x1), none, none] [] h (.inl (some (.int r))) h' := by
  unfold g_X6_readAct_b384 at hq
  refine jw_aload_n dX6_readAct_384 (o := (some x0)) rfl ?_
  refine jw_dup dX6_readAct_385 rfl ?_
  obtain ⟨v1, ev1, hq⟩ := Option.bind_eq_some_iff.mp hq
  refine jw_getI (o := (some x0)) dX6_readAct_386 ev1 fl_X6_43 rfl ?_
  refine jw_iconst dX6_readAct_389 (v := (1 : Int32)) (by decide) ?_
  refine jw_iadd dX6_readAct_390 ?_
  obtain ⟨h2, eh2, hq⟩ := Option.bind_eq_some_iff.mp hq
  refine jw_putI (o := (some x0)) dX6_readAct_391 eh2 fl_X6_43 rfl rfl ?_
  refine jw_aload_n dX6_readAct_394 (o := (some x0)) rfl ?_
  refine jw_aload_n dX6_readAct_395 (o := x1) rfl ?_
  obtain ⟨v3, ev3, hq⟩ := Option.bind_eq_some_iff.mp hq
  refine jw_getR (o := x1) dX6_readAct_396 ev3 fl_X6_143 rfl ?_
  obtain ⟨a4, ea4, hq⟩ := Option.bind_eq_some_iff.mp hq
  obtain ⟨eoa4, eta4⟩ := jw_rc_spec ea4
  obtain ⟨w6, h5, ew6, hq⟩ := jw_b2_spec hq
  refine jw_callV (As := [va_rf v3]) (S := []) (a := a4) (v := some (.int w6)) dX6_readAct_399 mt_X6_readAddress in_X6_readAddress se_X6_readAddress lk_X6_103 (c_X6_readAddress ew6) eta4 (by decide) rfl rfl (by decide) (Nat.le_of_ble_eq_true rfl) (by cases eoa4; rfl) ?_
  obtain ⟨v7, ev7, hq⟩ := Option.bind_eq_some_iff.mp hq
  cases hq
  exact jw_iret (ty := .boolean) dX6_readAct_402 rfl (jw_rb_spec ev7)

set_option maxRecDepth 100000 in
set_option maxHeartbeats 4000000 in
theorem l_X6_readAct_b474 {hi : jw_H} {h : jw_H} {t0 : Int32} {r : Int32} {h' : jw_H} (hq : g_X6_readAct_b474  h t0 = some (r, h')) : jw_E 4 uX6_readAct hi 474 [none, none, none, none] [.int t0] h (.inl (some (.int r))) h' := by
  unfold g_X6_readAct_b474 at hq
  obtain ⟨v1, ev1, hq⟩ := Option.bind_eq_some_iff.mp hq
  cases hq
  exact jw_iret (ty := .boolean) dX6_readAct_474 rfl (jw_rb_spec ev1)

set_option maxRecDepth 100000 in
set_option maxHeartbeats 4000000 in
theorem l_X6_readAct_b439 {hi : jw_H} {h : jw_H} {x0 : Nat} {x1 : Option Nat} {r : Int32} {h' : jw_H} (hq : g_X6_readAct_b439  h x0 x1 = some (r, h')) : jw_E 4 uX6_readAct hi 439 [some (.ref x0), some (va_rf x1), none, none] [] h (.inl (some (.int r))) h' := by
  unfold g_X6_readAct_b439 at hq
  refine jw_aload_n dX6_readAct_439 (o := (some x0)) rfl ?_
  refine jw_dup dX6_readAct_440 rfl ?_
  obtain ⟨v1, ev1, hq⟩ := Option.bind_eq_some_iff.mp hq
  refine jw_getI (o := (some x0)) dX6_readAct_441 ev1 fl_X6_43 rfl ?_
  refine jw_iconst dX6_readAct_444 (v := (1 : Int32)) (by decide) ?_
  refine jw_iadd dX6_readAct_445 ?_
  obtain ⟨h2, eh2, hq⟩ := Option.bind_eq_some_iff.mp hq
  refine jw_putI (o := (some x0)) dX6_readAct_446 eh2 fl_X6_43 rfl rfl ?_
  refine jw_aload_n dX6_readAct_449 (o := x1) rfl ?_
  refine jw_aload_n dX6_readAct_450 (o := (some x0)) rfl ?_
  refine jw_bipush dX6_readAct_451 (v := (48 : Int32)) (by decide) ?_
  refine jw_bipush dX6_readAct_453 (v := (51 : Int32)) (by decide) ?_
  obtain ⟨a3, ea3, hq⟩ := Option.bind_eq_some_iff.mp hq
  obtain ⟨eoa3, eta3⟩ := jw_rc_spec ea3
  obtain ⟨w5, h4, ew5, hq⟩ := jw_b2_spec hq
  refine jw_callV (As := [.int (48 : Int32), .int (51 : Int32)]) (S := [va_rf x1]) (a := a3) (v := some (.int w5)) dX6_readAct_455 mt_X6_readFrom in_X6_readFrom se_X6_readFrom lk_X6_121 (c_X6_readFrom ew5) eta3 (by decide) rfl rfl (by decide) (by simp only [List.map_cons, List.map_nil, List.sum_cons, List.sum_nil, jw_cat_rf, jw_cat_i, jw_cat_l, jw_cat_a, jw_cat_s] <;> decide) (by cases eoa3; rfl) ?_
  obtain ⟨h6, eh6, hq⟩ := Option.bind_eq_some_iff.mp hq
  refine jw_putI (o := x1) dX6_readAct_458 eh6 fl_X6_140 rfl rfl ?_
  refine jw_aload_n dX6_readAct_461 (o := x1) rfl ?_
  obtain ⟨v7, ev7, hq⟩ := Option.bind_eq_some_iff.mp hq
  refine jw_getI (o := x1) dX6_readAct_462 ev7 fl_X6_140 rfl ?_
  refine jw_iconst dX6_readAct_465 (v := (-1 : Int32)) (by decide) ?_
  rcases jw_if hq with ⟨c8, hq⟩ | ⟨c8, hq⟩
  · refine jw_icmp_eq_t (tgt := 473) dX6_readAct_466 (by decide) c8 ?_
    refine jw_iconst dX6_readAct_473 (v := (0 : Int32)) (by decide) ?_
    refine jw_forget [false, false, true, true] (L' := [none, none, none, none]) rfl ?_
    exact l_X6_readAct_b474  hq
  · refine jw_icmp_eq_f (tgt := 473) dX6_readAct_466 (by decide) c8 ?_
    refine jw_iconst dX6_readAct_469 (v := (1 : Int32)) (by decide) ?_
    refine jw_goto (tgt := 474) dX6_readAct_470 (by decide) ?_
    refine jw_forget [false, false, true, true] (L' := [none, none, none, none]) rfl ?_
    exact l_X6_readAct_b474  hq

set_option maxRecDepth 100000 in
set_option maxHeartbeats 4000000 in
theorem l_X6_readAct_b43 {hi : jw_H} {h : jw_H} {x0 : Nat} {x1 : Option Nat} {x3 : Int32} {r : Int32} {h' : jw_H} (hq : g_X6_readAct_b43  h x0 x1 x3 = some (r, h')) : jw_E 4 uX6_readAct hi 43 [some (.ref x0), some (va_rf x1), none, some (.int x3)] [] h (.inl (some (.int r))) h' := by
  unfold g_X6_readAct_b43 at hq
  refine jw_iload_n dX6_readAct_43 rfl ?_
  rcases jw_if hq with ⟨c1, hq⟩ | ⟨c1, hq⟩
  · refine jw_tableIn (tgt := 475) (off := 431) dX6_readAct_44 (by rw [c1]; decide) (by rw [c1]; decide) (by rw [c1]; rfl) (by decide) ?_
    exact l_X6_readAct_b475  hq
  · rcases jw_if hq with ⟨c2, hq⟩ | ⟨c2, hq⟩
    · refine jw_tableIn (tgt := 565) (off := 521) dX6_readAct_44 (by rw [c2]; decide) (by rw [c2]; decide) (by rw [c2]; rfl) (by decide) ?_
      refine jw_iconst dX6_readAct_565 (v := (0 : Int32)) (by decide) ?_
      cases hq
      exact jw_iret (ty := .boolean) dX6_readAct_566 rfl rfl
    · rcases jw_if hq with ⟨c3, hq⟩ | ⟨c3, hq⟩
      · refine jw_tableIn (tgt := 352) (off := 308) dX6_readAct_44 (by rw [c3]; decide) (by rw [c3]; decide) (by rw [c3]; rfl) (by decide) ?_
        refine jw_forget [true, true, true, false] (L' := [some (.ref x0), some (va_rf x1), none, none]) rfl ?_
        exact l_X6_readAct_b352  hq
      · rcases jw_if hq with ⟨c4, hq⟩ | ⟨c4, hq⟩
        · refine jw_tableIn (tgt := 340) (off := 296) dX6_readAct_44 (by rw [c4]; decide) (by rw [c4]; decide) (by rw [c4]; rfl) (by decide) ?_
          refine jw_forget [true, false, true, false] (L' := [some (.ref x0), none, none, none]) rfl ?_
          exact l_X6_readAct_b340  hq
        · rcases jw_if hq with ⟨c5, hq⟩ | ⟨c5, hq⟩
          · refine jw_tableIn (tgt := 352) (off := 308) dX6_readAct_44 (by rw [c5]; decide) (by rw [c5]; decide) (by rw [c5]; rfl) (by decide) ?_
            refine jw_forget [true, true, true, false] (L' := [some (.ref x0), some (va_rf x1), none, none]) rfl ?_
            exact l_X6_readAct_b352  hq
          · rcases jw_if hq with ⟨c6, hq⟩ | ⟨c6, hq⟩
            · refine jw_tableIn (tgt := 565) (off := 521) dX6_readAct_44 (by rw [c6]; decide) (by rw [c6]; decide) (by rw [c6]; rfl) (by decide) ?_
              refine jw_iconst dX6_readAct_565 (v := (0 : Int32)) (by decide) ?_
              cases hq
              exact jw_iret (ty := .boolean) dX6_readAct_566 rfl rfl
            · rcases jw_if hq with ⟨c7, hq⟩ | ⟨c7, hq⟩
              · refine jw_tableIn (tgt := 565) (off := 521) dX6_readAct_44 (by rw [c7]; decide) (by rw [c7]; decide) (by rw [c7]; rfl) (by decide) ?_
                refine jw_iconst dX6_readAct_565 (v := (0 : Int32)) (by decide) ?_
                cases hq
                exact jw_iret (ty := .boolean) dX6_readAct_566 rfl rfl
              · rcases jw_if hq with ⟨c8, hq⟩ | ⟨c8, hq⟩
                · refine jw_tableIn (tgt := 565) (off := 521) dX6_readAct_44 (by rw [c8]; decide) (by rw [c8]; decide) (by rw [c8]; rfl) (by decide) ?_
                  refine jw_iconst dX6_readAct_565 (v := (0 : Int32)) (by decide) ?_
                  cases hq
                  exact jw_iret (ty := .boolean) dX6_readAct_566 rfl rfl
                · rcases jw_if hq with ⟨c9, hq⟩ | ⟨c9, hq⟩
                  · refine jw_tableIn (tgt := 565) (off := 521) dX6_readAct_44 (by rw [c9]; decide) (by rw [c9]; decide) (by rw [c9]; rfl) (by decide) ?_
                    refine jw_iconst dX6_readAct_565 (v := (0 : Int32)) (by decide) ?_
                    cases hq
                    exact jw_iret (ty := .boolean) dX6_readAct_566 rfl rfl
                  · rcases jw_if hq with ⟨c10, hq⟩ | ⟨c10, hq⟩
                    · refine jw_tableIn (tgt := 565) (off := 521) dX6_readAct_44 (by rw [c10]; decide) (by rw [c10]; decide) (by rw [c10]; rfl) (by decide) ?_
                      refine jw_iconst dX6_readAct_565 (v := (0 : Int32)) (by decide) ?_
                      cases hq
                      exact jw_iret (ty := .boolean) dX6_readAct_566 rfl rfl
                    · rcases jw_if hq with ⟨c11, hq⟩ | ⟨c11, hq⟩
                      · refine jw_tableIn (tgt := 565) (off := 521) dX6_readAct_44 (by rw [c11]; decide) (by rw [c11]; decide) (by rw [c11]; rfl) (by decide) ?_
                        refine jw_iconst dX6_readAct_565 (v := (0 : Int32)) (by decide) ?_
                        cases hq
                        exact jw_iret (ty := .boolean) dX6_readAct_566 rfl rfl
                      · rcases jw_if hq with ⟨c12, hq⟩ | ⟨c12, hq⟩
                        · refine jw_tableIn (tgt := 565) (off := 521) dX6_readAct_44 (by rw [c12]; decide) (by rw [c12]; decide) (by rw [c12]; rfl) (by decide) ?_
                          refine jw_iconst dX6_readAct_565 (v := (0 : Int32)) (by decide) ?_
                          cases hq
                          exact jw_iret (ty := .boolean) dX6_readAct_566 rfl rfl
                        · rcases jw_if hq with ⟨c13, hq⟩ | ⟨c13, hq⟩
                          · refine jw_tableIn (tgt := 565) (off := 521) dX6_readAct_44 (by rw [c13]; decide) (by rw [c13]; decide) (by rw [c13]; rfl) (by decide) ?_
                            refine jw_iconst dX6_readAct_565 (v := (0 : Int32)) (by decide) ?_
                            cases hq
                            exact jw_iret (ty := .boolean) dX6_readAct_566 rfl rfl
                          · rcases jw_if hq with ⟨c14, hq⟩ | ⟨c14, hq⟩
                            · refine jw_tableIn (tgt := 549) (off := 505) dX6_readAct_44 (by rw [c14]; decide) (by rw [c14]; decide) (by rw [c14]; rfl) (by decide) ?_
                              refine jw_forget [true, true, true, false] (L' := [some (.ref x0), some (va_rf x1), none, none]) rfl ?_
                              exact l_X6_readAct_b549  hq
                            · rcases jw_if hq with ⟨c15, hq⟩ | ⟨c15, hq⟩
                              · refine jw_tableIn (tgt := 340) (off := 296) dX6_readAct_44 (by rw [c15]; decide) (by rw [c15]; decide) (by rw [c15]; rfl) (by decide) ?_
                                refine jw_forget [true, false, true, false] (L' := [some (.ref x0), none, none, none]) rfl ?_
                                exact l_X6_readAct_b340  hq
                              · rcases jw_if hq with ⟨c16, hq⟩ | ⟨c16, hq⟩
                                · refine jw_tableIn (tgt := 565) (off := 521) dX6_readAct_44 (by rw [c16]; decide) (by rw [c16]; decide) (by rw [c16]; rfl) (by decide) ?_
                                  refine jw_iconst dX6_readAct_565 (v := (0 : Int32)) (by decide) ?_
                                  cases hq
                                  exact jw_iret (ty := .boolean) dX6_readAct_566 rfl rfl
                                · rcases jw_if hq with ⟨c17, hq⟩ | ⟨c17, hq⟩
                                  · refine jw_tableIn (tgt := 565) (off := 521) dX6_readAct_44 (by rw [c17]; decide) (by rw [c17]; decide) (by rw [c17]; rfl) (by decide) ?_
                                    refine jw_iconst dX6_readAct_565 (v := (0 : Int32)) (by decide) ?_
                                    cases hq
                                    exact jw_iret (ty := .boolean) dX6_readAct_566 rfl rfl
                                  · rcases jw_if hq with ⟨c18, hq⟩ | ⟨c18, hq⟩
                                    · refine jw_tableIn (tgt := 565) (off := 521) dX6_readAct_44 (by rw [c18]; decide) (by rw [c18]; decide) (by rw [c18]; rfl) (by decide) ?_
                                      refine jw_iconst dX6_readAct_565 (v := (0 : Int32)) (by decide) ?_
                                      cases hq
                                      exact jw_iret (ty := .boolean) dX6_readAct_566 rfl rfl
                                    · rcases jw_if hq with ⟨c19, hq⟩ | ⟨c19, hq⟩
                                      · refine jw_tableIn (tgt := 565) (off := 521) dX6_readAct_44 (by rw [c19]; decide) (by rw [c19]; decide) (by rw [c19]; rfl) (by decide) ?_
                                        refine jw_iconst dX6_readAct_565 (v := (0 : Int32)) (by decide) ?_
                                        cases hq
                                        exact jw_iret (ty := .boolean) dX6_readAct_566 rfl rfl
                                      · rcases jw_if hq with ⟨c20, hq⟩ | ⟨c20, hq⟩
                                        · refine jw_tableIn (tgt := 565) (off := 521) dX6_readAct_44 (by rw [c20]; decide) (by rw [c20]; decide) (by rw [c20]; rfl) (by decide) ?_
                                          refine jw_iconst dX6_readAct_565 (v := (0 : Int32)) (by decide) ?_
                                          cases hq
                                          exact jw_iret (ty := .boolean) dX6_readAct_566 rfl rfl
                                        · rcases jw_if hq with ⟨c21, hq⟩ | ⟨c21, hq⟩
                                          · refine jw_tableIn (tgt := 340) (off := 296) dX6_readAct_44 (by rw [c21]; decide) (by rw [c21]; decide) (by rw [c21]; rfl) (by decide) ?_
                                            refine jw_forget [true, false, true, false] (L' := [some (.ref x0), none, none, none]) rfl ?_
                                            exact l_X6_readAct_b340  hq
                                          · rcases jw_if hq with ⟨c22, hq⟩ | ⟨c22, hq⟩
                                            · refine jw_tableIn (tgt := 352) (off := 308) dX6_readAct_44 (by rw [c22]; decide) (by rw [c22]; decide) (by rw [c22]; rfl) (by decide) ?_
                                              refine jw_forget [true, true, true, false] (L' := [some (.ref x0), some (va_rf x1), none, none]) rfl ?_
                                              exact l_X6_readAct_b352  hq
                                            · rcases jw_if hq with ⟨c23, hq⟩ | ⟨c23, hq⟩
                                              · refine jw_tableIn (tgt := 565) (off := 521) dX6_readAct_44 (by rw [c23]; decide) (by rw [c23]; decide) (by rw [c23]; rfl) (by decide) ?_
                                                refine jw_iconst dX6_readAct_565 (v := (0 : Int32)) (by decide) ?_
                                                cases hq
                                                exact jw_iret (ty := .boolean) dX6_readAct_566 rfl rfl
                                              · rcases jw_if hq with ⟨c24, hq⟩ | ⟨c24, hq⟩
                                                · refine jw_tableIn (tgt := 565) (off := 521) dX6_readAct_44 (by rw [c24]; decide) (by rw [c24]; decide) (by rw [c24]; rfl) (by decide) ?_
                                                  refine jw_iconst dX6_readAct_565 (v := (0 : Int32)) (by decide) ?_
                                                  cases hq
                                                  exact jw_iret (ty := .boolean) dX6_readAct_566 rfl rfl
                                                · rcases jw_if hq with ⟨c25, hq⟩ | ⟨c25, hq⟩
                                                  · refine jw_tableIn (tgt := 565) (off := 521) dX6_readAct_44 (by rw [c25]; decide) (by rw [c25]; decide) (by rw [c25]; rfl) (by decide) ?_
                                                    refine jw_iconst dX6_readAct_565 (v := (0 : Int32)) (by decide) ?_
                                                    cases hq
                                                    exact jw_iret (ty := .boolean) dX6_readAct_566 rfl rfl
                                                  · rcases jw_if hq with ⟨c26, hq⟩ | ⟨c26, hq⟩
                                                    · refine jw_tableIn (tgt := 565) (off := 521) dX6_readAct_44 (by rw [c26]; decide) (by rw [c26]; decide) (by rw [c26]; rfl) (by decide) ?_
                                                      refine jw_iconst dX6_readAct_565 (v := (0 : Int32)) (by decide) ?_
                                                      cases hq
                                                      exact jw_iret (ty := .boolean) dX6_readAct_566 rfl rfl
                                                    · rcases jw_if hq with ⟨c27, hq⟩ | ⟨c27, hq⟩
                                                      · refine jw_tableIn (tgt := 475) (off := 431) dX6_readAct_44 (by rw [c27]; decide) (by rw [c27]; decide) (by rw [c27]; rfl) (by decide) ?_
                                                        exact l_X6_readAct_b475  hq
                                                      · rcases jw_if hq with ⟨c28, hq⟩ | ⟨c28, hq⟩
                                                        · refine jw_tableIn (tgt := 565) (off := 521) dX6_readAct_44 (by rw [c28]; decide) (by rw [c28]; decide) (by rw [c28]; rfl) (by decide) ?_
                                                          refine jw_iconst dX6_readAct_565 (v := (0 : Int32)) (by decide) ?_
                                                          cases hq
                                                          exact jw_iret (ty := .boolean) dX6_readAct_566 rfl rfl
                                                        · rcases jw_if hq with ⟨c29, hq⟩ | ⟨c29, hq⟩
                                                          · refine jw_tableIn (tgt := 565) (off := 521) dX6_readAct_44 (by rw [c29]; decide) (by rw [c29]; decide) (by rw [c29]; rfl) (by decide) ?_
                                                            refine jw_iconst dX6_readAct_565 (v := (0 : Int32)) (by decide) ?_
                                                            cases hq
                                                            exact jw_iret (ty := .boolean) dX6_readAct_566 rfl rfl
                                                          · rcases jw_if hq with ⟨c30, hq⟩ | ⟨c30, hq⟩
                                                            · refine jw_tableIn (tgt := 565) (off := 521) dX6_readAct_44 (by rw [c30]; decide) (by rw [c30]; decide) (by rw [c30]; rfl) (by decide) ?_
                                                              refine jw_iconst dX6_readAct_565 (v := (0 : Int32)) (by decide) ?_
                                                              cases hq
                                                              exact jw_iret (ty := .boolean) dX6_readAct_566 rfl rfl
                                                            · rcases jw_if hq with ⟨c31, hq⟩ | ⟨c31, hq⟩
                                                              · refine jw_tableIn (tgt := 565) (off := 521) dX6_readAct_44 (by rw [c31]; decide) (by rw [c31]; decide) (by rw [c31]; rfl) (by decide) ?_
                                                                refine jw_iconst dX6_readAct_565 (v := (0 : Int32)) (by decide) ?_
                                                                cases hq
                                                                exact jw_iret (ty := .boolean) dX6_readAct_566 rfl rfl
                                                              · rcases jw_if hq with ⟨c32, hq⟩ | ⟨c32, hq⟩
                                                                · refine jw_tableIn (tgt := 565) (off := 521) dX6_readAct_44 (by rw [c32]; decide) (by rw [c32]; decide) (by rw [c32]; rfl) (by decide) ?_
                                                                  refine jw_iconst dX6_readAct_565 (v := (0 : Int32)) (by decide) ?_
                                                                  cases hq
                                                                  exact jw_iret (ty := .boolean) dX6_readAct_566 rfl rfl
                                                                · rcases jw_if hq with ⟨c33, hq⟩ | ⟨c33, hq⟩
                                                                  · refine jw_tableIn (tgt := 565) (off := 521) dX6_readAct_44 (by rw [c33]; decide) (by rw [c33]; decide) (by rw [c33]; rfl) (by decide) ?_
                                                                    refine jw_iconst dX6_readAct_565 (v := (0 : Int32)) (by decide) ?_
                                                                    cases hq
                                                                    exact jw_iret (ty := .boolean) dX6_readAct_566 rfl rfl
                                                                  · rcases jw_if hq with ⟨c34, hq⟩ | ⟨c34, hq⟩
                                                                    · refine jw_tableIn (tgt := 565) (off := 521) dX6_readAct_44 (by rw [c34]; decide) (by rw [c34]; decide) (by rw [c34]; rfl) (by decide) ?_
                                                                      refine jw_iconst dX6_readAct_565 (v := (0 : Int32)) (by decide) ?_
                                                                      cases hq
                                                                      exact jw_iret (ty := .boolean) dX6_readAct_566 rfl rfl
                                                                    · rcases jw_if hq with ⟨c35, hq⟩ | ⟨c35, hq⟩
                                                                      · refine jw_tableIn (tgt := 565) (off := 521) dX6_readAct_44 (by rw [c35]; decide) (by rw [c35]; decide) (by rw [c35]; rfl) (by decide) ?_
                                                                        refine jw_iconst dX6_readAct_565 (v := (0 : Int32)) (by decide) ?_
                                                                        cases hq
                                                                        exact jw_iret (ty := .boolean) dX6_readAct_566 rfl rfl
                                                                      · rcases jw_if hq with ⟨c36, hq⟩ | ⟨c36, hq⟩
                                                                        · refine jw_tableIn (tgt := 565) (off := 521) dX6_readAct_44 (by rw [c36]; decide) (by rw [c36]; decide) (by rw [c36]; rfl) (by decide) ?_
                                                                          refine jw_iconst dX6_readAct_565 (v := (0 : Int32)) (by decide) ?_
                                                                          cases hq
                                                                          exact jw_iret (ty := .boolean) dX6_readAct_566 rfl rfl
                                                                        · rcases jw_if hq with ⟨c37, hq⟩ | ⟨c37, hq⟩
                                                                          · refine jw_tableIn (tgt := 565) (off := 521) dX6_readAct_44 (by rw [c37]; decide) (by rw [c37]; decide) (by rw [c37]; rfl) (by decide) ?_
                                                                            refine jw_iconst dX6_readAct_565 (v := (0 : Int32)) (by decide) ?_
                                                                            cases hq
                                                                            exact jw_iret (ty := .boolean) dX6_readAct_566 rfl rfl
                                                                          · rcases jw_if hq with ⟨c38, hq⟩ | ⟨c38, hq⟩
                                                                            · refine jw_tableIn (tgt := 565) (off := 521) dX6_readAct_44 (by rw [c38]; decide) (by rw [c38]; decide) (by rw [c38]; rfl) (by decide) ?_
                                                                              refine jw_iconst dX6_readAct_565 (v := (0 : Int32)) (by decide) ?_
                                                                              cases hq
                                                                              exact jw_iret (ty := .boolean) dX6_readAct_566 rfl rfl
                                                                            · rcases jw_if hq with ⟨c39, hq⟩ | ⟨c39, hq⟩
                                                                              · refine jw_tableIn (tgt := 565) (off := 521) dX6_readAct_44 (by rw [c39]; decide) (by rw [c39]; decide) (by rw [c39]; rfl) (by decide) ?_
                                                                                refine jw_iconst dX6_readAct_565 (v := (0 : Int32)) (by decide) ?_
                                                                                cases hq
                                                                                exact jw_iret (ty := .boolean) dX6_readAct_566 rfl rfl
                                                                              · rcases jw_if hq with ⟨c40, hq⟩ | ⟨c40, hq⟩
                                                                                · refine jw_tableIn (tgt := 324) (off := 280) dX6_readAct_44 (by rw [c40]; decide) (by rw [c40]; decide) (by rw [c40]; rfl) (by decide) ?_
                                                                                  refine jw_forget [true, true, true, false] (L' := [some (.ref x0), some (va_rf x1), none, none]) rfl ?_
                                                                                  exact l_X6_readAct_b324  hq
                                                                                · rcases jw_if hq with ⟨c41, hq⟩ | ⟨c41, hq⟩
                                                                                  · refine jw_tableIn (tgt := 475) (off := 431) dX6_readAct_44 (by rw [c41]; decide) (by rw [c41]; decide) (by rw [c41]; rfl) (by decide) ?_
                                                                                    exact l_X6_readAct_b475  hq
                                                                                  · rcases jw_if hq with ⟨c42, hq⟩ | ⟨c42, hq⟩
                                                                                    · refine jw_tableIn (tgt := 324) (off := 280) dX6_readAct_44 (by rw [c42]; decide) (by rw [c42]; decide) (by rw [c42]; rfl) (by decide) ?_
                                                                                      refine jw_forget [true, true, true, false] (L' := [some (.ref x0), some (va_rf x1), none, none]) rfl ?_
                                                                                      exact l_X6_readAct_b324  hq
                                                                                    · rcases jw_if hq with ⟨c43, hq⟩ | ⟨c43, hq⟩
                                                                                      · refine jw_tableIn (tgt := 340) (off := 296) dX6_readAct_44 (by rw [c43]; decide) (by rw [c43]; decide) (by rw [c43]; rfl) (by decide) ?_
                                                                                        refine jw_forget [true, false, true, false] (L' := [some (.ref x0), none, none, none]) rfl ?_
                                                                                        exact l_X6_readAct_b340  hq
                                                                                      · rcases jw_if hq with ⟨c44, hq⟩ | ⟨c44, hq⟩
                                                                                        · refine jw_tableIn (tgt := 340) (off := 296) dX6_readAct_44 (by rw [c44]; decide) (by rw [c44]; decide) (by rw [c44]; rfl) (by decide) ?_
                                                                                          refine jw_forget [true, false, true, false] (L' := [some (.ref x0), none, none, none]) rfl ?_
                                                                                          exact l_X6_readAct_b340  hq
                                                                                        · rcases jw_if hq with ⟨c45, hq⟩ | ⟨c45, hq⟩
                                                                                          · refine jw_tableIn (tgt := 565) (off := 521) dX6_readAct_44 (by rw [c45]; decide) (by rw [c45]; decide) (by rw [c45]; rfl) (by decide) ?_
                                                                                            refine jw_iconst dX6_readAct_565 (v := (0 : Int32)) (by decide) ?_
                                                                                            cases hq
                                                                                            exact jw_iret (ty := .boolean) dX6_readAct_566 rfl rfl
                                                                                          · rcases jw_if hq with ⟨c46, hq⟩ | ⟨c46, hq⟩
                                                                                            · refine jw_tableIn (tgt := 549) (off := 505) dX6_readAct_44 (by rw [c46]; decide) (by rw [c46]; decide) (by rw [c46]; rfl) (by decide) ?_
                                                                                              refine jw_forget [true, true, true, false] (L' := [some (.ref x0), some (va_rf x1), none, none]) rfl ?_
                                                                                              exact l_X6_readAct_b549  hq
                                                                                            · rcases jw_if hq with ⟨c47, hq⟩ | ⟨c47, hq⟩
                                                                                              · refine jw_tableIn (tgt := 340) (off := 296) dX6_readAct_44 (by rw [c47]; decide) (by rw [c47]; decide) (by rw [c47]; rfl) (by decide) ?_
                                                                                                refine jw_forget [true, false, true, false] (L' := [some (.ref x0), none, none, none]) rfl ?_
                                                                                                exact l_X6_readAct_b340  hq
                                                                                              · rcases jw_if hq with ⟨c48, hq⟩ | ⟨c48, hq⟩
                                                                                                · refine jw_tableIn (tgt := 324) (off := 280) dX6_readAct_44 (by rw [c48]; decide) (by rw [c48]; decide) (by rw [c48]; rfl) (by decide) ?_
                                                                                                  refine jw_forget [true, true, true, false] (L' := [some (.ref x0), some (va_rf x1), none, none]) rfl ?_
                                                                                                  exact l_X6_readAct_b324  hq
                                                                                                · rcases jw_if hq with ⟨c49, hq⟩ | ⟨c49, hq⟩
                                                                                                  · refine jw_tableIn (tgt := 340) (off := 296) dX6_readAct_44 (by rw [c49]; decide) (by rw [c49]; decide) (by rw [c49]; rfl) (by decide) ?_
                                                                                                    refine jw_forget [true, false, true, false] (L' := [some (.ref x0), none, none, none]) rfl ?_
                                                                                                    exact l_X6_readAct_b340  hq
                                                                                                  · rcases jw_if hq with ⟨c50, hq⟩ | ⟨c50, hq⟩
                                                                                                    · refine jw_tableIn (tgt := 403) (off := 359) dX6_readAct_44 (by rw [c50]; decide) (by rw [c50]; decide) (by rw [c50]; rfl) (by decide) ?_
                                                                                                      refine jw_aload_n dX6_readAct_403 (o := (some x0)) rfl ?_
                                                                                                      refine jw_dup dX6_readAct_404 rfl ?_
                                                                                                      obtain ⟨v51, ev51, hq⟩ := Option.bind_eq_some_iff.mp hq
                                                                                                      refine jw_getI (o := (some x0)) dX6_readAct_405 ev51 fl_X6_43 rfl ?_
                                                                                                      refine jw_iconst dX6_readAct_408 (v := (1 : Int32)) (by decide) ?_
                                                                                                      refine jw_iadd dX6_readAct_409 ?_
                                                                                                      obtain ⟨h52, eh52, hq⟩ := Option.bind_eq_some_iff.mp hq
                                                                                                      refine jw_putI (o := (some x0)) dX6_readAct_410 eh52 fl_X6_43 rfl rfl ?_
                                                                                                      refine jw_aload_n dX6_readAct_413 (o := x1) rfl ?_
                                                                                                      refine jw_aload_n dX6_readAct_414 (o := (some x0)) rfl ?_
                                                                                                      refine jw_bipush dX6_readAct_415 (v := (97 : Int32)) (by decide) ?_
                                                                                                      refine jw_bipush dX6_readAct_417 (v := (101 : Int32)) (by decide) ?_
                                                                                                      obtain ⟨a53, ea53, hq⟩ := Option.bind_eq_some_iff.mp hq
                                                                                                      obtain ⟨eoa53, eta53⟩ := jw_rc_spec ea53
                                                                                                      obtain ⟨w55, h54, ew55, hq⟩ := jw_b2_spec hq
                                                                                                      refine jw_callV (As := [.int (97 : Int32), .int (101 : Int32)]) (S := [va_rf x1]) (a := a53) (v := some (.int w55)) dX6_readAct_419 mt_X6_readFrom in_X6_readFrom se_X6_readFrom lk_X6_121 (c_X6_readFrom ew55) eta53 (by decide) rfl rfl (by decide) (by simp only [List.map_cons, List.map_nil, List.sum_cons, List.sum_nil, jw_cat_rf, jw_cat_i, jw_cat_l, jw_cat_a, jw_cat_s] <;> decide) (by cases eoa53; rfl) ?_
                                                                                                      obtain ⟨h56, eh56, hq⟩ := Option.bind_eq_some_iff.mp hq
                                                                                                      refine jw_putI (o := x1) dX6_readAct_422 eh56 fl_X6_140 rfl rfl ?_
                                                                                                      refine jw_aload_n dX6_readAct_425 (o := x1) rfl ?_
                                                                                                      obtain ⟨v57, ev57, hq⟩ := Option.bind_eq_some_iff.mp hq
                                                                                                      refine jw_getI (o := x1) dX6_readAct_426 ev57 fl_X6_140 rfl ?_
                                                                                                      refine jw_iconst dX6_readAct_429 (v := (-1 : Int32)) (by decide) ?_
                                                                                                      rcases jw_if hq with ⟨c58, hq⟩ | ⟨c58, hq⟩
                                                                                                      · refine jw_icmp_eq_t (tgt := 437) dX6_readAct_430 (by decide) c58 ?_
                                                                                                        refine jw_iconst dX6_readAct_437 (v := (0 : Int32)) (by decide) ?_
                                                                                                        refine jw_forget [false, false, true, false] (L' := [none, none, none, none]) rfl ?_
                                                                                                        exact l_X6_readAct_b438  hq
                                                                                                      · refine jw_icmp_eq_f (tgt := 437) dX6_readAct_430 (by decide) c58 ?_
                                                                                                        refine jw_iconst dX6_readAct_433 (v := (1 : Int32)) (by decide) ?_
                                                                                                        refine jw_goto (tgt := 438) dX6_readAct_434 (by decide) ?_
                                                                                                        refine jw_forget [false, false, true, false] (L' := [none, none, none, none]) rfl ?_
                                                                                                        exact l_X6_readAct_b438  hq
                                                                                                    · rcases jw_if hq with ⟨c59, hq⟩ | ⟨c59, hq⟩
                                                                                                      · refine jw_tableIn (tgt := 340) (off := 296) dX6_readAct_44 (by rw [c59]; decide) (by rw [c59]; decide) (by rw [c59]; rfl) (by decide) ?_
                                                                                                        refine jw_forget [true, false, true, false] (L' := [some (.ref x0), none, none, none]) rfl ?_
                                                                                                        exact l_X6_readAct_b340  hq
                                                                                                      · rcases jw_if hq with ⟨c60, hq⟩ | ⟨c60, hq⟩
                                                                                                        · refine jw_tableIn (tgt := 384) (off := 340) dX6_readAct_44 (by rw [c60]; decide) (by rw [c60]; decide) (by rw [c60]; rfl) (by decide) ?_
                                                                                                          refine jw_forget [true, true, true, false] (L' := [some (.ref x0), some (va_rf x1), none, none]) rfl ?_
                                                                                                          exact l_X6_readAct_b384  hq
                                                                                                        · rcases jw_if hq with ⟨c61, hq⟩ | ⟨c61, hq⟩
                                                                                                          · refine jw_tableIn (tgt := 340) (off := 296) dX6_readAct_44 (by rw [c61]; decide) (by rw [c61]; decide) (by rw [c61]; rfl) (by decide) ?_
                                                                                                            refine jw_forget [true, false, true, false] (L' := [some (.ref x0), none, none, none]) rfl ?_
                                                                                                            exact l_X6_readAct_b340  hq
                                                                                                          · rcases jw_if hq with ⟨c62, hq⟩ | ⟨c62, hq⟩
                                                                                                            · refine jw_tableIn (tgt := 352) (off := 308) dX6_readAct_44 (by rw [c62]; decide) (by rw [c62]; decide) (by rw [c62]; rfl) (by decide) ?_
                                                                                                              refine jw_forget [true, true, true, false] (L' := [some (.ref x0), some (va_rf x1), none, none]) rfl ?_
                                                                                                              exact l_X6_readAct_b352  hq
                                                                                                            · rcases jw_if hq with ⟨c63, hq⟩ | ⟨c63, hq⟩
                                                                                                              · refine jw_tableIn (tgt := 340) (off := 296) dX6_readAct_44 (by rw [c63]; decide) (by rw [c63]; decide) (by rw [c63]; rfl) (by decide) ?_
                                                                                                                refine jw_forget [true, false, true, false] (L' := [some (.ref x0), none, none, none]) rfl ?_
                                                                                                                exact l_X6_readAct_b340  hq
                                                                                                              · rcases jw_if hq with ⟨c64, hq⟩ | ⟨c64, hq⟩
                                                                                                                · refine jw_tableIn (tgt := 340) (off := 296) dX6_readAct_44 (by rw [c64]; decide) (by rw [c64]; decide) (by rw [c64]; rfl) (by decide) ?_
                                                                                                                  refine jw_forget [true, false, true, false] (L' := [some (.ref x0), none, none, none]) rfl ?_
                                                                                                                  exact l_X6_readAct_b340  hq
                                                                                                                · rcases jw_if hq with ⟨c65, hq⟩ | ⟨c65, hq⟩
                                                                                                                  · refine jw_tableIn (tgt := 439) (off := 395) dX6_readAct_44 (by rw [c65]; decide) (by rw [c65]; decide) (by rw [c65]; rfl) (by decide) ?_
                                                                                                                    refine jw_forget [true, true, true, false] (L' := [some (.ref x0), some (va_rf x1), none, none]) rfl ?_
                                                                                                                    exact l_X6_readAct_b439  hq
                                                                                                                  · rcases jw_if hq with ⟨c66, hq⟩ | ⟨c66, hq⟩
                                                                                                                    · refine jw_tableIn (tgt := 517) (off := 473) dX6_readAct_44 (by rw [c66]; decide) (by rw [c66]; decide) (by rw [c66]; rfl) (by decide) ?_
                                                                                                                      refine jw_aload_n dX6_readAct_517 (o := (some x0)) rfl ?_
                                                                                                                      refine jw_dup dX6_readAct_518 rfl ?_
                                                                                                                      obtain ⟨v67, ev67, hq⟩ := Option.bind_eq_some_iff.mp hq
                                                                                                                      refine jw_getI (o := (some x0)) dX6_readAct_519 ev67 fl_X6_43 rfl ?_
                                                                                                                      refine jw_iconst dX6_readAct_522 (v := (1 : Int32)) (by decide) ?_
                                                                                                                      refine jw_iadd dX6_readAct_523 ?_
                                                                                                                      obtain ⟨h68, eh68, hq⟩ := Option.bind_eq_some_iff.mp hq
                                                                                                                      refine jw_putI (o := (some x0)) dX6_readAct_524 eh68 fl_X6_43 rfl rfl ?_
                                                                                                                      refine jw_aload_n dX6_readAct_527 (o := (some x0)) rfl ?_
                                                                                                                      refine jw_aload_n dX6_readAct_528 (o := x1) rfl ?_
                                                                                                                      obtain ⟨a69, ea69, hq⟩ := Option.bind_eq_some_iff.mp hq
                                                                                                                      obtain ⟨eoa69, eta69⟩ := jw_rc_spec ea69
                                                                                                                      obtain ⟨w71, h70, ew71, hq⟩ := jw_b2_spec hq
                                                                                                                      refine jw_callV (As := [va_rf x1]) (S := []) (a := a69) (v := some (.int w71)) dX6_readAct_529 mt_X6_readReplace in_X6_readReplace se_X6_readReplace lk_X6_146 (c_X6_readReplace ew71) eta69 (by decide) rfl rfl (by decide) (Nat.le_of_ble_eq_true rfl) (by cases eoa69; rfl) ?_
                                                                                                                      obtain ⟨v72, ev72, hq⟩ := Option.bind_eq_some_iff.mp hq
                                                                                                                      cases hq
                                                                                                                      exact jw_iret (ty := .boolean) dX6_readAct_532 rfl (jw_rb_spec ev72)
                                                                                                                    · rcases jw_if hq with ⟨c73, hq⟩ | ⟨c73, hq⟩
                                                                                                                      · refine jw_tableIn (tgt := 384) (off := 340) dX6_readAct_44 (by rw [c73]; decide) (by rw [c73]; decide) (by rw [c73]; rfl) (by decide) ?_
                                                                                                                        refine jw_forget [true, true, true, false] (L' := [some (.ref x0), some (va_rf x1), none, none]) rfl ?_
                                                                                                                        exact l_X6_readAct_b384  hq
                                                                                                                      · rcases jw_if hq with ⟨c74, hq⟩ | ⟨c74, hq⟩
                                                                                                                        · refine jw_tableIn (tgt := 340) (off := 296) dX6_readAct_44 (by rw [c74]; decide) (by rw [c74]; decide) (by rw [c74]; rfl) (by decide) ?_
                                                                                                                          refine jw_forget [true, false, true, false] (L' := [some (.ref x0), none, none, none]) rfl ?_
                                                                                                                          exact l_X6_readAct_b340  hq
                                                                                                                        · rcases jw_if hq with ⟨c75, hq⟩ | ⟨c75, hq⟩
                                                                                                                          · refine jw_tableIn (tgt := 352) (off := 308) dX6_readAct_44 (by rw [c75]; decide) (by rw [c75]; decide) (by rw [c75]; rfl) (by decide) ?_
                                                                                                                            refine jw_forget [true, true, true, false] (L' := [some (.ref x0), some (va_rf x1), none, none]) rfl ?_
                                                                                                                            exact l_X6_readAct_b352  hq
                                                                                                                          · rcases jw_if hq with ⟨c76, hq⟩ | ⟨c76, hq⟩
                                                                                                                            · refine jw_tableIn (tgt := 439) (off := 395) dX6_readAct_44 (by rw [c76]; decide) (by rw [c76]; decide) (by rw [c76]; rfl) (by decide) ?_
                                                                                                                              refine jw_forget [true, true, true, false] (L' := [some (.ref x0), some (va_rf x1), none, none]) rfl ?_
                                                                                                                              exact l_X6_readAct_b439  hq
                                                                                                                            · rcases jw_if hq with ⟨c77, hq⟩ | ⟨c77, hq⟩
                                                                                                                              · refine jw_tableIn (tgt := 565) (off := 521) dX6_readAct_44 (by rw [c77]; decide) (by rw [c77]; decide) (by rw [c77]; rfl) (by decide) ?_
                                                                                                                                refine jw_iconst dX6_readAct_565 (v := (0 : Int32)) (by decide) ?_
                                                                                                                                cases hq
                                                                                                                                exact jw_iret (ty := .boolean) dX6_readAct_566 rfl rfl
                                                                                                                              · rcases jw_if hq with ⟨c78, hq⟩ | ⟨c78, hq⟩
                                                                                                                                · refine jw_tableIn (tgt := 565) (off := 521) dX6_readAct_44 (by rw [c78]; decide) (by rw [c78]; decide) (by rw [c78]; rfl) (by decide) ?_
                                                                                                                                  refine jw_iconst dX6_readAct_565 (v := (0 : Int32)) (by decide) ?_
                                                                                                                                  cases hq
                                                                                                                                  exact jw_iret (ty := .boolean) dX6_readAct_566 rfl rfl
                                                                                                                                · rcases jw_if hq with ⟨c79, hq⟩ | ⟨c79, hq⟩
                                                                                                                                  · refine jw_tableIn (tgt := 533) (off := 489) dX6_readAct_44 (by rw [c79]; decide) (by rw [c79]; decide) (by rw [c79]; rfl) (by decide) ?_
                                                                                                                                    refine jw_aload_n dX6_readAct_533 (o := (some x0)) rfl ?_
                                                                                                                                    refine jw_dup dX6_readAct_534 rfl ?_
                                                                                                                                    obtain ⟨v80, ev80, hq⟩ := Option.bind_eq_some_iff.mp hq
                                                                                                                                    refine jw_getI (o := (some x0)) dX6_readAct_535 ev80 fl_X6_43 rfl ?_
                                                                                                                                    refine jw_iconst dX6_readAct_538 (v := (1 : Int32)) (by decide) ?_
                                                                                                                                    refine jw_iadd dX6_readAct_539 ?_
                                                                                                                                    obtain ⟨h81, eh81, hq⟩ := Option.bind_eq_some_iff.mp hq
                                                                                                                                    refine jw_putI (o := (some x0)) dX6_readAct_540 eh81 fl_X6_43 rfl rfl ?_
                                                                                                                                    refine jw_aload_n dX6_readAct_543 (o := (some x0)) rfl ?_
                                                                                                                                    refine jw_aload_n dX6_readAct_544 (o := x1) rfl ?_
                                                                                                                                    obtain ⟨a82, ea82, hq⟩ := Option.bind_eq_some_iff.mp hq
                                                                                                                                    obtain ⟨eoa82, eta82⟩ := jw_rc_spec ea82
                                                                                                                                    obtain ⟨w84, h83, ew84, hq⟩ := jw_b2_spec hq
                                                                                                                                    refine jw_callV (As := [va_rf x1]) (S := []) (a := a82) (v := some (.int w84)) dX6_readAct_545 mt_X6_readTurn in_X6_readTurn se_X6_readTurn lk_X6_149 (c_X6_readTurn ew84) eta82 (by decide) rfl rfl (by decide) (Nat.le_of_ble_eq_true rfl) (by cases eoa82; rfl) ?_
                                                                                                                                    obtain ⟨v85, ev85, hq⟩ := Option.bind_eq_some_iff.mp hq
                                                                                                                                    cases hq
                                                                                                                                    exact jw_iret (ty := .boolean) dX6_readAct_548 rfl (jw_rb_spec ev85)
                                                                                                                                  · rcases jw_if hq with ⟨c86, hq⟩ | ⟨c86, hq⟩
                                                                                                                                    · refine jw_tableIn (tgt := 340) (off := 296) dX6_readAct_44 (by rw [c86]; decide) (by rw [c86]; decide) (by rw [c86]; rfl) (by decide) ?_
                                                                                                                                      refine jw_forget [true, false, true, false] (L' := [some (.ref x0), none, none, none]) rfl ?_
                                                                                                                                      exact l_X6_readAct_b340  hq
                                                                                                                                    · refine jw_tableOut (tgt := 565) dX6_readAct_44 (by have z0 : ¬ (x3).toInt = 58 := lv_neT c1 rfl; have z1 : ¬ (x3).toInt = 59 := lv_neT c2 rfl; have z2 : ¬ (x3).toInt = 60 := lv_neT c3 rfl; have z3 : ¬ (x3).toInt = 61 := lv_neT c4 rfl; have z4 : ¬ (x3).toInt = 62 := lv_neT c5 rfl; have z5 : ¬ (x3).toInt = 63 := lv_neT c6 rfl; have z6 : ¬ (x3).toInt = 64 := lv_neT c7 rfl; have z7 : ¬ (x3).toInt = 65 := lv_neT c8 rfl; have z8 : ¬ (x3).toInt = 66 := lv_neT c9 rfl; have z9 : ¬ (x3).toInt = 67 := lv_neT c10 rfl; have z10 : ¬ (x3).toInt = 68 := lv_neT c11 rfl; have z11 : ¬ (x3).toInt = 69 := lv_neT c12 rfl; have z12 : ¬ (x3).toInt = 70 := lv_neT c13 rfl; have z13 : ¬ (x3).toInt = 71 := lv_neT c14 rfl; have z14 : ¬ (x3).toInt = 72 := lv_neT c15 rfl; have z15 : ¬ (x3).toInt = 73 := lv_neT c16 rfl; have z16 : ¬ (x3).toInt = 74 := lv_neT c17 rfl; have z17 : ¬ (x3).toInt = 75 := lv_neT c18 rfl; have z18 : ¬ (x3).toInt = 76 := lv_neT c19 rfl; have z19 : ¬ (x3).toInt = 77 := lv_neT c20 rfl; have z20 : ¬ (x3).toInt = 78 := lv_neT c21 rfl; have z21 : ¬ (x3).toInt = 79 := lv_neT c22 rfl; have z22 : ¬ (x3).toInt = 80 := lv_neT c23 rfl; have z23 : ¬ (x3).toInt = 81 := lv_neT c24 rfl; have z24 : ¬ (x3).toInt = 82 := lv_neT c25 rfl; have z25 : ¬ (x3).toInt = 83 := lv_neT c26 rfl; have z26 : ¬ (x3).toInt = 84 := lv_neT c27 rfl; have z27 : ¬ (x3).toInt = 85 := lv_neT c28 rfl; have z28 : ¬ (x3).toInt = 86 := lv_neT c29 rfl; have z29 : ¬ (x3).toInt = 87 := lv_neT c30 rfl; have z30 : ¬ (x3).toInt = 88 := lv_neT c31 rfl; have z31 : ¬ (x3).toInt = 89 := lv_neT c32 rfl; have z32 : ¬ (x3).toInt = 90 := lv_neT c33 rfl; have z33 : ¬ (x3).toInt = 91 := lv_neT c34 rfl; have z34 : ¬ (x3).toInt = 92 := lv_neT c35 rfl; have z35 : ¬ (x3).toInt = 93 := lv_neT c36 rfl; have z36 : ¬ (x3).toInt = 94 := lv_neT c37 rfl; have z37 : ¬ (x3).toInt = 95 := lv_neT c38 rfl; have z38 : ¬ (x3).toInt = 96 := lv_neT c39 rfl; have z39 : ¬ (x3).toInt = 97 := lv_neT c40 rfl; have z40 : ¬ (x3).toInt = 98 := lv_neT c41 rfl; have z41 : ¬ (x3).toInt = 99 := lv_neT c42 rfl; have z42 : ¬ (x3).toInt = 100 := lv_neT c43 rfl; have z43 : ¬ (x3).toInt = 101 := lv_neT c44 rfl; have z44 : ¬ (x3).toInt = 102 := lv_neT c45 rfl; have z45 : ¬ (x3).toInt = 103 := lv_neT c46 rfl; have z46 : ¬ (x3).toInt = 104 := lv_neT c47 rfl; have z47 : ¬ (x3).toInt = 105 := lv_neT c48 rfl; have z48 : ¬ (x3).toInt = 106 := lv_neT c49 rfl; have z49 : ¬ (x3).toInt = 107 := lv_neT c50 rfl; have z50 : ¬ (x3).toInt = 108 := lv_neT c59 rfl; have z51 : ¬ (x3).toInt = 109 := lv_neT c60 rfl; have z52 : ¬ (x3).toInt = 110 := lv_neT c61 rfl; have z53 : ¬ (x3).toInt = 111 := lv_neT c62 rfl; have z54 : ¬ (x3).toInt = 112 := lv_neT c63 rfl; have z55 : ¬ (x3).toInt = 113 := lv_neT c64 rfl; have z56 : ¬ (x3).toInt = 114 := lv_neT c65 rfl; have z57 : ¬ (x3).toInt = 115 := lv_neT c66 rfl; have z58 : ¬ (x3).toInt = 116 := lv_neT c73 rfl; have z59 : ¬ (x3).toInt = 117 := lv_neT c74 rfl; have z60 : ¬ (x3).toInt = 118 := lv_neT c75 rfl; have z61 : ¬ (x3).toInt = 119 := lv_neT c76 rfl; have z62 : ¬ (x3).toInt = 120 := lv_neT c77 rfl; have z63 : ¬ (x3).toInt = 121 := lv_neT c78 rfl; have z64 : ¬ (x3).toInt = 122 := lv_neT c79 rfl; have z65 : ¬ (x3).toInt = 123 := lv_neT c86 rfl; omega) (by decide) ?_
                                                                                                                                      refine jw_iconst dX6_readAct_565 (v := (0 : Int32)) (by decide) ?_
                                                                                                                                      cases hq
                                                                                                                                      exact jw_iret (ty := .boolean) dX6_readAct_566 rfl rfl

set_option maxRecDepth 100000 in
set_option maxHeartbeats 4000000 in
theorem l_X6_readAct_b28 {hi : jw_H} {h : jw_H} {x0 : Nat} {x1 : Option Nat} {x3 : Int32} {r : Int32} {h' : jw_H} (hq : g_X6_readAct_b28  h x0 x1 x3 = some (r, h')) : jw_E 4 uX6_readAct hi 28 [some (.ref x0), some (va_rf x1), none, some (.int x3)] [] h (.inl (some (.int r))) h' := by
  unfold g_X6_readAct_b28 at hq
  refine jw_iload_n dX6_readAct_28 rfl ?_
  refine jw_bipush dX6_readAct_29 (v := (58 : Int32)) (by decide) ?_
  rcases jw_if hq with ⟨c1, hq⟩ | ⟨c1, hq⟩
  · refine jw_icmp_ne_f (tgt := 43) dX6_readAct_31 (by decide) c1 ?_
    refine jw_aload_n dX6_readAct_34 (o := x1) rfl ?_
    obtain ⟨v2, ev2, hq⟩ := Option.bind_eq_some_iff.mp hq
    refine jw_getI (o := x1) dX6_readAct_35 ev2 fl_X6_90 rfl ?_
    rcases jw_if hq with ⟨c3, hq⟩ | ⟨c3, hq⟩
    · refine jw_if_eq_t (tgt := 43) dX6_readAct_38 (by decide) c3 ?_
      exact l_X6_readAct_b43  hq
    · refine jw_if_eq_f (tgt := 43) dX6_readAct_38 (by decide) c3 ?_
      refine jw_iconst dX6_readAct_41 (v := (0 : Int32)) (by decide) ?_
      cases hq
      exact jw_iret (ty := .boolean) dX6_readAct_42 rfl rfl
  · refine jw_icmp_ne_t (tgt := 43) dX6_readAct_31 (by decide) c1 ?_
    exact l_X6_readAct_b43  hq

set_option maxRecDepth 100000 in
set_option maxHeartbeats 4000000 in
theorem l_X6_readAct {hi : jw_H} {h : jw_H} {x0 : Nat} {x1 : Option Nat} {x2 : Int32} {r : Int32} {h' : jw_H} (hq : f_X6_readAct  h x0 x1 x2 = some (r, h')) : jw_E 4 uX6_readAct hi 0 [some (.ref x0), some (va_rf x1), some (.int x2), none] [] h (.inl (some (.int r))) h' := by
  unfold f_X6_readAct at hq
  refine jw_aload_n dX6_readAct_0 (o := (some x0)) rfl ?_
  obtain ⟨a1, ea1, hq⟩ := Option.bind_eq_some_iff.mp hq
  obtain ⟨eoa1, eta1⟩ := jw_rc_spec ea1
  obtain ⟨w3, h2, ew3, hq⟩ := jw_b2_spec hq
  refine jw_callV (As := []) (S := []) (a := a1) (v := some (.int w3)) dX6_readAct_1 mt_X6_peek in_X6_peek se_X6_peek lk_X6_93 (c_X6_peek ew3) eta1 (by decide) rfl rfl (by decide) (Nat.le_of_ble_eq_true rfl) (by cases eoa1; rfl) ?_
  refine jw_istore_n (L' := [some (.ref x0), some (va_rf x1), some (.int x2), some (.int w3)]) dX6_readAct_4 (Nat.le_of_ble_eq_true rfl) rfl ?_
  refine jw_aload_n dX6_readAct_5 (o := x1) rfl ?_
  refine jw_iload_n dX6_readAct_6 rfl ?_
  obtain ⟨h4, eh4, hq⟩ := Option.bind_eq_some_iff.mp hq
  refine jw_putI (o := x1) dX6_readAct_7 eh4 fl_X6_69 rfl rfl ?_
  refine jw_iload_n dX6_readAct_10 rfl ?_
  rcases jw_if hq with ⟨c5, hq⟩ | ⟨c5, hq⟩
  · refine jw_if_eq_t (tgt := 28) dX6_readAct_11 (by decide) c5 ?_
    refine jw_forget [true, true, false, true] (L' := [some (.ref x0), some (va_rf x1), none, some (.int w3)]) rfl ?_
    exact l_X6_readAct_b28  hq
  · refine jw_if_eq_f (tgt := 28) dX6_readAct_11 (by decide) c5 ?_
    refine jw_aload_n dX6_readAct_14 (o := x1) rfl ?_
    obtain ⟨a6, ea6, hq⟩ := Option.bind_eq_some_iff.mp hq
    obtain ⟨eoa6, eta6⟩ := jw_rc_spec ea6
    obtain ⟨w8, h7, ew8, hq⟩ := jw_b2_spec hq
    refine jw_callV (As := []) (S := []) (a := a6) (v := some (.int w8)) dX6_readAct_15 mt_X5_holdsOthers in_X5_holdsOthers se_X5_holdsOthers lk_X6_65 (c_X5_holdsOthers ew8) eta6 (by decide) rfl rfl (by decide) (Nat.le_of_ble_eq_true rfl) (by cases eoa6; rfl) ?_
    rcases jw_if hq with ⟨c9, hq⟩ | ⟨c9, hq⟩
    · refine jw_if_ne_f (tgt := 41) dX6_readAct_18 (by decide) c9 ?_
      refine jw_aload_n dX6_readAct_21 (o := x1) rfl ?_
      obtain ⟨a10, ea10, hq⟩ := Option.bind_eq_some_iff.mp hq
      obtain ⟨eoa10, eta10⟩ := jw_rc_spec ea10
      obtain ⟨w12, h11, ew12, hq⟩ := jw_b2_spec hq
      refine jw_callV (As := []) (S := []) (a := a10) (v := some (.int w12)) dX6_readAct_22 mt_X5_steers in_X5_steers se_X5_steers lk_X6_134 (c_X5_steers ew12) eta10 (by decide) rfl rfl (by decide) (Nat.le_of_ble_eq_true rfl) (by cases eoa10; rfl) ?_
      rcases jw_if hq with ⟨c13, hq⟩ | ⟨c13, hq⟩
      · refine jw_if_ne_f (tgt := 41) dX6_readAct_25 (by decide) c13 ?_
        refine jw_forget [true, true, false, true] (L' := [some (.ref x0), some (va_rf x1), none, some (.int w3)]) rfl ?_
        exact l_X6_readAct_b28  hq
      · refine jw_if_ne_t (tgt := 41) dX6_readAct_25 (by decide) c13 ?_
        refine jw_iconst dX6_readAct_41 (v := (0 : Int32)) (by decide) ?_
        cases hq
        exact jw_iret (ty := .boolean) dX6_readAct_42 rfl rfl
    · refine jw_if_ne_t (tgt := 41) dX6_readAct_18 (by decide) c9 ?_
      refine jw_iconst dX6_readAct_41 (v := (0 : Int32)) (by decide) ?_
      cases hq
      exact jw_iret (ty := .boolean) dX6_readAct_42 rfl rfl

theorem c_X6_readAct {h : jw_H} {x0 : Nat} {x1 : Option Nat} {x2 : Int32} {r : Int32} {h' : jw_H} (hq : f_X6_readAct h x0 x1 x2 = some (r, h')) : jw_Con (Cond.code yX6_readAct cX6_readAct 4 (some .boolean)) yX6_readAct 4 [.ref x0, va_rf x1, .int x2] h (.inl (some (.int r))) h' :=
  jw_con false (plainFor_of_name (by decide +kernel)) (fun z => nomatch z) (by simp [jw_ent, jw_sl0_nil, jw_sl0_int, jw_sl0_long, jw_sl0_ref, jw_sl0_rf, jw_sl0_scr, List.replicate]) (by simp [jw_sl0_nil, jw_sl0_int, jw_sl0_long, jw_sl0_ref, jw_sl0_rf, jw_sl0_scr]) (l_X6_readAct hq)


/-! X6_readOrder -/
noncomputable def f_X6_readOrder (h : jw_H) (x0 : Nat) (x1 : Int32) : Option (Int32 × jw_H) :=
 (jw_gI h 6 (some x0) 6).bind fun v1 =>
 if v1 < 0 then (some ((0 : Int32), h))
 else ((jw_gI h 6 (some x0) 6).bind fun v3 =>
 (jw_gR h 6 (some x0) 0).bind fun v4 =>
 (jw_ln h v4).bind fun v5 =>
 if v5 ≤ v3 then (some ((0 : Int32), h))
 else ((jw_gR h 6 (some x0) 0).bind fun v7 =>
 (jw_gI h 6 (some x0) 6).bind fun v8 =>
 (jw_ar h 35 v7 v8).bind fun v9 =>
 if v9 = none then (some ((0 : Int32), h))
 else ((jw_gR h 6 (some x0) 0).bind fun v11 =>
 (jw_gI h 6 (some x0) 6).bind fun v12 =>
 (jw_ar h 35 v11 v12).bind fun v13 =>
 (jw_rc h 5 v13).bind fun a14 =>
 jw_b2 (f_X5_clear h a14) fun w16 h15 =>
 (jw_rc h15 6 (some x0)).bind fun a17 =>
 jw_b2 (f_X6_readWhere h15 a17 v13) fun w19 h18 =>
 if w19 = 0 then (some ((0 : Int32), h18))
 else ((jw_rc h18 6 (some x0)).bind fun a21 =>
 jw_b2 (f_X6_readAct h18 a21 v13 x1) fun w23 h22 =>
 if w23 = 0 then (some ((0 : Int32), h22))
 else ((jw_gI h22 6 (some x0) 6).bind fun v25 =>
 (jw_pI h22 6 (some x0) 6 (v25 + (1 : Int32))).bind fun h26 =>
 (jw_gI h26 6 (some x0) 6).bind fun v27 =>
 (jw_pI h26 5 v13 9 v27).bind fun h28 =>
 some ((1 : Int32), h28))))))

set_option maxRecDepth 100000 in
set_option maxHeartbeats 4000000 in
theorem l_X6_readOrder {hi : jw_H} {h : jw_H} {x0 : Nat} {x1 : Int32} {r : Int32} {h' : jw_H} (hq : f_X6_readOrder  h x0 x1 = some (r, h')) : jw_E 5 uX6_readOrder hi 0 [some (.ref x0), some (.int x1), none] [] h (.inl (some (.int r))) h' := by
  unfold f_X6_readOrder at hq
  refine jw_aload_n dX6_readOrder_0 (o := (some x0)) rfl ?_
  obtain ⟨v1, ev1, hq⟩ := Option.bind_eq_some_iff.mp hq
  refine jw_getI (o := (some x0)) dX6_readOrder_1 ev1 fl_X6_30 rfl ?_
  rcases jw_if hq with ⟨c2, hq⟩ | ⟨c2, hq⟩
  · refine jw_if_lt_t (tgt := 31) dX6_readOrder_4 (by decide) c2 ?_
    refine jw_iconst dX6_readOrder_31 (v := (0 : Int32)) (by decide) ?_
    cases hq
    exact jw_iret (ty := .boolean) dX6_readOrder_32 rfl rfl
  · refine jw_if_lt_f (tgt := 31) dX6_readOrder_4 (by decide) c2 ?_
    refine jw_aload_n dX6_readOrder_7 (o := (some x0)) rfl ?_
    obtain ⟨v3, ev3, hq⟩ := Option.bind_eq_some_iff.mp hq
    refine jw_getI (o := (some x0)) dX6_readOrder_8 ev3 fl_X6_30 rfl ?_
    refine jw_aload_n dX6_readOrder_11 (o := (some x0)) rfl ?_
    obtain ⟨v4, ev4, hq⟩ := Option.bind_eq_some_iff.mp hq
    refine jw_getR (o := (some x0)) dX6_readOrder_12 ev4 fl_X6_11 rfl ?_
    obtain ⟨v5, ev5, hq⟩ := Option.bind_eq_some_iff.mp hq
    refine jw_alen (o := v4) dX6_readOrder_15 ev5 ?_
    rcases jw_if hq with ⟨c6, hq⟩ | ⟨c6, hq⟩
    · refine jw_icmp_ge_t (tgt := 31) dX6_readOrder_16 (by decide) c6 ?_
      refine jw_iconst dX6_readOrder_31 (v := (0 : Int32)) (by decide) ?_
      cases hq
      exact jw_iret (ty := .boolean) dX6_readOrder_32 rfl rfl
    · refine jw_icmp_ge_f (tgt := 31) dX6_readOrder_16 (by decide) c6 ?_
      refine jw_aload_n dX6_readOrder_19 (o := (some x0)) rfl ?_
      obtain ⟨v7, ev7, hq⟩ := Option.bind_eq_some_iff.mp hq
      refine jw_getR (o := (some x0)) dX6_readOrder_20 ev7 fl_X6_11 rfl ?_
      refine jw_aload_n dX6_readOrder_23 (o := (some x0)) rfl ?_
      obtain ⟨v8, ev8, hq⟩ := Option.bind_eq_some_iff.mp hq
      refine jw_getI (o := (some x0)) dX6_readOrder_24 ev8 fl_X6_30 rfl ?_
      obtain ⟨v9, ev9, hq⟩ := Option.bind_eq_some_iff.mp hq
      refine jw_aald (t := 35) (Nat.le_of_ble_eq_true rfl) (o := v7) dX6_readOrder_27 ev9 ?_
      rcases jw_if hq with ⟨c10, hq⟩ | ⟨c10, hq⟩
      · refine jw_ifnonnull_f (o := v9) dX6_readOrder_28 c10 ?_
        refine jw_iconst dX6_readOrder_31 (v := (0 : Int32)) (by decide) ?_
        cases hq
        exact jw_iret (ty := .boolean) dX6_readOrder_32 rfl rfl
      · refine jw_ifnonnull_t (o := v9) (tgt := 33) dX6_readOrder_28 (by decide) c10 ?_
        refine jw_aload_n dX6_readOrder_33 (o := (some x0)) rfl ?_
        obtain ⟨v11, ev11, hq⟩ := Option.bind_eq_some_iff.mp hq
        refine jw_getR (o := (some x0)) dX6_readOrder_34 ev11 fl_X6_11 rfl ?_
        refine jw_aload_n dX6_readOrder_37 (o := (some x0)) rfl ?_
        obtain ⟨v12, ev12, hq⟩ := Option.bind_eq_some_iff.mp hq
        refine jw_getI (o := (some x0)) dX6_readOrder_38 ev12 fl_X6_30 rfl ?_
        obtain ⟨v13, ev13, hq⟩ := Option.bind_eq_some_iff.mp hq
        refine jw_aald (t := 35) (Nat.le_of_ble_eq_true rfl) (o := v11) dX6_readOrder_41 ev13 ?_
        refine jw_astore_n (o := v13) (L' := [some (.ref x0), some (.int x1), some (va_rf v13)]) dX6_readOrder_42 (Nat.le_of_ble_eq_true rfl) rfl ?_
        refine jw_aload_n dX6_readOrder_43 (o := v13) rfl ?_
        obtain ⟨a14, ea14, hq⟩ := Option.bind_eq_some_iff.mp hq
        obtain ⟨eoa14, eta14⟩ := jw_rc_spec ea14
        obtain ⟨w16, h15, ew16, hq⟩ := jw_b2_spec hq
        refine jw_callV (As := []) (S := []) (a := a14) (v := none) dX6_readOrder_44 mt_X5_clear in_X5_clear se_X5_clear lk_X6_79 (c_X5_clear ew16) eta14 (by decide) rfl rfl (by decide) (Nat.le_of_ble_eq_true rfl) (by cases eoa14; rfl) ?_
        refine jw_aload_n dX6_readOrder_47 (o := (some x0)) rfl ?_
        refine jw_aload_n dX6_readOrder_48 (o := v13) rfl ?_
        obtain ⟨a17, ea17, hq⟩ := Option.bind_eq_some_iff.mp hq
        obtain ⟨eoa17, eta17⟩ := jw_rc_spec ea17
        obtain ⟨w19, h18, ew19, hq⟩ := jw_b2_spec hq
        refine jw_callV (As := [va_rf v13]) (S := []) (a := a17) (v := some (.int w19)) dX6_readOrder_49 mt_X6_readWhere in_X6_readWhere se_X6_readWhere lk_X6_82 (c_X6_readWhere ew19) eta17 (by decide) rfl rfl (by decide) (Nat.le_of_ble_eq_true rfl) (by cases eoa17; rfl) ?_
        rcases jw_if hq with ⟨c20, hq⟩ | ⟨c20, hq⟩
        · refine jw_if_eq_t (tgt := 64) dX6_readOrder_52 (by decide) c20 ?_
          refine jw_iconst dX6_readOrder_64 (v := (0 : Int32)) (by decide) ?_
          cases hq
          exact jw_iret (ty := .boolean) dX6_readOrder_65 rfl rfl
        · refine jw_if_eq_f (tgt := 64) dX6_readOrder_52 (by decide) c20 ?_
          refine jw_aload_n dX6_readOrder_55 (o := (some x0)) rfl ?_
          refine jw_aload_n dX6_readOrder_56 (o := v13) rfl ?_
          refine jw_iload_n dX6_readOrder_57 rfl ?_
          obtain ⟨a21, ea21, hq⟩ := Option.bind_eq_some_iff.mp hq
          obtain ⟨eoa21, eta21⟩ := jw_rc_spec ea21
          obtain ⟨w23, h22, ew23, hq⟩ := jw_b2_spec hq
          refine jw_callV (As := [va_rf v13, .int x1]) (S := []) (a := a21) (v := some (.int w23)) dX6_readOrder_58 mt_X6_readAct in_X6_readAct se_X6_readAct lk_X6_86 (c_X6_readAct ew23) eta21 (by decide) rfl rfl (by decide) (Nat.le_of_ble_eq_true rfl) (by cases eoa21; rfl) ?_
          rcases jw_if hq with ⟨c24, hq⟩ | ⟨c24, hq⟩
          · refine jw_if_ne_f (tgt := 66) dX6_readOrder_61 (by decide) c24 ?_
            refine jw_iconst dX6_readOrder_64 (v := (0 : Int32)) (by decide) ?_
            cases hq
            exact jw_iret (ty := .boolean) dX6_readOrder_65 rfl rfl
          · refine jw_if_ne_t (tgt := 66) dX6_readOrder_61 (by decide) c24 ?_
            refine jw_aload_n dX6_readOrder_66 (o := (some x0)) rfl ?_
            refine jw_dup dX6_readOrder_67 rfl ?_
            obtain ⟨v25, ev25, hq⟩ := Option.bind_eq_some_iff.mp hq
            refine jw_getI (o := (some x0)) dX6_readOrder_68 ev25 fl_X6_30 rfl ?_
            refine jw_iconst dX6_readOrder_71 (v := (1 : Int32)) (by decide) ?_
            refine jw_iadd dX6_readOrder_72 ?_
            obtain ⟨h26, eh26, hq⟩ := Option.bind_eq_some_iff.mp hq
            refine jw_putI (o := (some x0)) dX6_readOrder_73 eh26 fl_X6_30 rfl rfl ?_
            refine jw_aload_n dX6_readOrder_76 (o := v13) rfl ?_
            refine jw_aload_n dX6_readOrder_77 (o := (some x0)) rfl ?_
            obtain ⟨v27, ev27, hq⟩ := Option.bind_eq_some_iff.mp hq
            refine jw_getI (o := (some x0)) dX6_readOrder_78 ev27 fl_X6_30 rfl ?_
            obtain ⟨h28, eh28, hq⟩ := Option.bind_eq_some_iff.mp hq
            refine jw_putI (o := v13) dX6_readOrder_81 eh28 fl_X6_76 rfl rfl ?_
            refine jw_iconst dX6_readOrder_84 (v := (1 : Int32)) (by decide) ?_
            cases hq
            exact jw_iret (ty := .boolean) dX6_readOrder_85 rfl rfl

theorem c_X6_readOrder {h : jw_H} {x0 : Nat} {x1 : Int32} {r : Int32} {h' : jw_H} (hq : f_X6_readOrder h x0 x1 = some (r, h')) : jw_Con (Cond.code yX6_readOrder cX6_readOrder 3 (some .boolean)) yX6_readOrder 5 [.ref x0, .int x1] h (.inl (some (.int r))) h' :=
  jw_con false (plainFor_of_name (by decide +kernel)) (fun z => nomatch z) (by simp [jw_ent, jw_sl0_nil, jw_sl0_int, jw_sl0_long, jw_sl0_ref, jw_sl0_rf, jw_sl0_scr, List.replicate]) (by simp [jw_sl0_nil, jw_sl0_int, jw_sl0_long, jw_sl0_ref, jw_sl0_rf, jw_sl0_scr]) (l_X6_readOrder hq)


/-! X6_orderAt -/
noncomputable def g_X6_orderAt_b31 (h : jw_H) (t0 : Option Nat) : Option ((Option Nat) × jw_H) :=
 some (t0, h)

noncomputable def g_X6_orderAt_b30 (h : jw_H)  : Option ((Option Nat) × jw_H) :=
 g_X6_orderAt_b31  h none

noncomputable def f_X6_orderAt (h : jw_H) (x0 : Nat) (x1 : Int32) : Option ((Option Nat) × jw_H) :=
 if x1 < 0 then (g_X6_orderAt_b30  h )
 else ((jw_gI h 6 (some x0) 6).bind fun v2 =>
 if v2 ≤ x1 then (g_X6_orderAt_b30  h )
 else ((jw_gR h 6 (some x0) 0).bind fun v4 =>
 (jw_ln h v4).bind fun v5 =>
 if v5 ≤ x1 then (g_X6_orderAt_b30  h )
 else ((jw_gR h 6 (some x0) 0).bind fun v7 =>
 (jw_ar h 35 v7 x1).bind fun v8 =>
 g_X6_orderAt_b31  h v8)))

set_option maxRecDepth 100000 in
set_option maxHeartbeats 4000000 in
theorem l_X6_orderAt_b31 {hi : jw_H} {h : jw_H} {t0 : Option Nat} {r : Option Nat} {h' : jw_H} (hq : g_X6_orderAt_b31  h t0 = some (r, h')) : jw_E 0 uX6_orderAt hi 31 [none, none] [va_rf t0] h (.inl (some (va_rf r))) h' := by
  unfold g_X6_orderAt_b31 at hq
  cases hq
  exact jw_aret (x := t0) dX6_orderAt_31 rfl rfl

set_option maxRecDepth 100000 in
set_option maxHeartbeats 4000000 in
theorem l_X6_orderAt_b30 {hi : jw_H} {h : jw_H}  {r : Option Nat} {h' : jw_H} (hq : g_X6_orderAt_b30  h  = some (r, h')) : jw_E 0 uX6_orderAt hi 30 [none, none] [] h (.inl (some (va_rf r))) h' := by
  unfold g_X6_orderAt_b30 at hq
  refine jw_null dX6_orderAt_30 ?_
  exact l_X6_orderAt_b31  hq

set_option maxRecDepth 100000 in
set_option maxHeartbeats 4000000 in
theorem l_X6_orderAt {hi : jw_H} {h : jw_H} {x0 : Nat} {x1 : Int32} {r : Option Nat} {h' : jw_H} (hq : f_X6_orderAt  h x0 x1 = some (r, h')) : jw_E 0 uX6_orderAt hi 0 [some (.ref x0), some (.int x1)] [] h (.inl (some (va_rf r))) h' := by
  unfold f_X6_orderAt at hq
  refine jw_iload_n dX6_orderAt_0 rfl ?_
  rcases jw_if hq with ⟨c1, hq⟩ | ⟨c1, hq⟩
  · refine jw_if_lt_t (tgt := 30) dX6_orderAt_1 (by decide) c1 ?_
    refine jw_forget [false, false] (L' := [none, none]) rfl ?_
    exact l_X6_orderAt_b30  hq
  · refine jw_if_lt_f (tgt := 30) dX6_orderAt_1 (by decide) c1 ?_
    refine jw_iload_n dX6_orderAt_4 rfl ?_
    refine jw_aload_n dX6_orderAt_5 (o := (some x0)) rfl ?_
    obtain ⟨v2, ev2, hq⟩ := Option.bind_eq_some_iff.mp hq
    refine jw_getI (o := (some x0)) dX6_orderAt_6 ev2 fl_X6_30 rfl ?_
    rcases jw_if hq with ⟨c3, hq⟩ | ⟨c3, hq⟩
    · refine jw_icmp_ge_t (tgt := 30) dX6_orderAt_9 (by decide) c3 ?_
      refine jw_forget [false, false] (L' := [none, none]) rfl ?_
      exact l_X6_orderAt_b30  hq
    · refine jw_icmp_ge_f (tgt := 30) dX6_orderAt_9 (by decide) c3 ?_
      refine jw_iload_n dX6_orderAt_12 rfl ?_
      refine jw_aload_n dX6_orderAt_13 (o := (some x0)) rfl ?_
      obtain ⟨v4, ev4, hq⟩ := Option.bind_eq_some_iff.mp hq
      refine jw_getR (o := (some x0)) dX6_orderAt_14 ev4 fl_X6_11 rfl ?_
      obtain ⟨v5, ev5, hq⟩ := Option.bind_eq_some_iff.mp hq
      refine jw_alen (o := v4) dX6_orderAt_17 ev5 ?_
      rcases jw_if hq with ⟨c6, hq⟩ | ⟨c6, hq⟩
      · refine jw_icmp_ge_t (tgt := 30) dX6_orderAt_18 (by decide) c6 ?_
        refine jw_forget [false, false] (L' := [none, none]) rfl ?_
        exact l_X6_orderAt_b30  hq
      · refine jw_icmp_ge_f (tgt := 30) dX6_orderAt_18 (by decide) c6 ?_
        refine jw_aload_n dX6_orderAt_21 (o := (some x0)) rfl ?_
        obtain ⟨v7, ev7, hq⟩ := Option.bind_eq_some_iff.mp hq
        refine jw_getR (o := (some x0)) dX6_orderAt_22 ev7 fl_X6_11 rfl ?_
        refine jw_iload_n dX6_orderAt_25 rfl ?_
        obtain ⟨v8, ev8, hq⟩ := Option.bind_eq_some_iff.mp hq
        refine jw_aald (t := 35) (Nat.le_of_ble_eq_true rfl) (o := v7) dX6_orderAt_26 ev8 ?_
        refine jw_goto (tgt := 31) dX6_orderAt_27 (by decide) ?_
        refine jw_forget [false, false] (L' := [none, none]) rfl ?_
        exact l_X6_orderAt_b31  hq

theorem c_X6_orderAt {h : jw_H} {x0 : Nat} {x1 : Int32} {r : Option Nat} {h' : jw_H} (hq : f_X6_orderAt h x0 x1 = some (r, h')) : jw_Con (Cond.code yX6_orderAt cX6_orderAt 2 (some (.object "Lineorders$Order"))) yX6_orderAt 0 [.ref x0, .int x1] h (.inl (some (va_rf r))) h' :=
  jw_con false (plainFor_of_name (by decide +kernel)) (fun z => nomatch z) (by simp [jw_ent, jw_sl0_nil, jw_sl0_int, jw_sl0_long, jw_sl0_ref, jw_sl0_rf, jw_sl0_scr, List.replicate]) (by simp [jw_sl0_nil, jw_sl0_int, jw_sl0_long, jw_sl0_ref, jw_sl0_rf, jw_sl0_scr]) (l_X6_orderAt hq)


/-! X6_readOrders -/
noncomputable def g_X6_readOrders_b167 (k14 : jw_H → Nat → Option Nat → Int32 → Int32 → Option (Int32 × jw_H)) (h : jw_H) (x0 : Nat) (x3 : Option Nat) (x4 : Int32) (x5 : Int32) : Option (Int32 × jw_H) :=
 k14 h x0 x3 x4 (x5 + (1 : Int32))

noncomputable def g_X6_readOrders_b96 (k14 : jw_H → Nat → Option Nat → Int32 → Int32 → Option (Int32 × jw_H)) (h : jw_H) (x0 : Nat) (x3 : Option Nat) (x5 : Int32) (t0 : Int32) : Option (Int32 × jw_H) :=
 g_X6_readOrders_b167 k14 h x0 x3 t0 x5

noncomputable def g_X6_readOrders_b95 (k14 : jw_H → Nat → Option Nat → Int32 → Int32 → Option (Int32 × jw_H)) (h : jw_H) (x0 : Nat) (x3 : Option Nat) (x5 : Int32) : Option (Int32 × jw_H) :=
 g_X6_readOrders_b96 k14 h x0 x3 x5 (0 : Int32)

noncomputable def g_X6_readOrders_b152 (h : jw_H) (t0 : Int32) : Option (Int32 × jw_H) :=
 some (t0, h)

noncomputable def g_X6_readOrders_b129 (k14 : jw_H → Nat → Option Nat → Int32 → Int32 → Option (Int32 × jw_H)) (h : jw_H) (x0 : Nat) (x3 : Option Nat) (x4 : Int32) (x5 : Int32) : Option (Int32 × jw_H) :=
 (jw_gI h 6 (some x0) 5).bind fun v1 =>
 (jw_gI h 6 (some x0) 4).bind fun v2 =>
 if v1 < v2 then ((jw_rc h 6 (some x0)).bind fun a4 =>
 jw_b2 (f_X6_pass h a4 (59 : Int32)) fun w6 h5 =>
 if w6 = 0 then ((jw_gI h5 6 (some x0) 5).bind fun v8 =>
 some (v8, h5))
 else (g_X6_readOrders_b167 k14 h5 x0 x3 x4 x5))
 else (if x3 = none then (g_X6_readOrders_b152  h (-1 : Int32))
 else ((jw_gI h 6 (some x0) 4).bind fun v10 =>
 g_X6_readOrders_b152  h v10))

noncomputable def g_X6_readOrders_b119 (k14 : jw_H → Nat → Option Nat → Int32 → Int32 → Option (Int32 × jw_H)) (h : jw_H) (x0 : Nat) (x3 : Option Nat) (x4 : Int32) (x5 : Int32) : Option (Int32 × jw_H) :=
 (jw_gI h 6 (some x0) 6).bind fun v1 =>
 (jw_pI h 5 x3 9 v1).bind fun h2 =>
 g_X6_readOrders_b129 k14 h2 x0 none x4 x5

noncomputable def g_X6_readOrders_b101 (k14 : jw_H → Nat → Option Nat → Int32 → Int32 → Option (Int32 × jw_H)) (h : jw_H) (x0 : Nat) (x3 : Option Nat) (x4 : Int32) (x5 : Int32) : Option (Int32 × jw_H) :=
 if x3 = none then (g_X6_readOrders_b129 k14 h x0 x3 x4 x5)
 else (if x4 = 0 then ((jw_rc h 6 (some x0)).bind fun a3 =>
 jw_b2 (f_X6_pass h a3 (125 : Int32)) fun w5 h4 =>
 if w5 = 0 then (g_X6_readOrders_b129 k14 h4 x0 x3 x4 x5)
 else (g_X6_readOrders_b119 k14 h4 x0 x3 x4 x5))
 else (g_X6_readOrders_b119 k14 h x0 x3 x4 x5))

noncomputable def g_X6_readOrders_b37 (k14 : jw_H → Nat → Option Nat → Int32 → Int32 → Option (Int32 × jw_H)) (h : jw_H) (x0 : Nat) (x3 : Option Nat) (x4 : Int32) (x5 : Int32) (x6 : Int32) (t0 : Nat) (t1 : Int32) : Option (Int32 × jw_H) :=
 (jw_rc h 6 (some t0)).bind fun a1 =>
 jw_b2 (f_X6_readOrder h a1 t1) fun w3 h2 =>
 if w3 = 0 then ((jw_gI h2 6 (some x0) 5).bind fun v19 =>
 some (v19, h2))
 else ((jw_rc h2 6 (some x0)).bind fun a5 =>
 jw_b2 (f_X6_orderAt h2 a5 x6) fun w7 h6 =>
 if w7 = none then (g_X6_readOrders_b101 k14 h6 x0 x3 x4 x5)
 else ((jw_rc h6 5 w7).bind fun a9 =>
 jw_b2 (f_X5_holdsOthers h6 a9) fun w11 h10 =>
 if w11 = 0 then (g_X6_readOrders_b101 k14 h10 x0 x3 x4 x5)
 else ((jw_gI h10 5 w7 3).bind fun v13 =>
 if v13 = (123 : Int32) then (g_X6_readOrders_b95 k14 h10 x0 w7 x5)
 else ((jw_rc h10 6 (some x0)).bind fun a15 =>
 jw_b2 (f_X6_pass h10 a15 (123 : Int32)) fun w17 h16 =>
 if w17 = 0 then (g_X6_readOrders_b96 k14 h16 x0 w7 x5 (1 : Int32))
 else (g_X6_readOrders_b95 k14 h16 x0 w7 x5)))))

noncomputable def g_X6_readOrders_b14 (k14 : jw_H → Nat → Option Nat → Int32 → Int32 → Option (Int32 × jw_H)) (h : jw_H) (x0 : Nat) (x3 : Option Nat) (x4 : Int32) (x5 : Int32) : Option (Int32 × jw_H) :=
 if (60 : Int32) < x5 then ((jw_gI h 6 (some x0) 5).bind fun v2 =>
 some (v2, h))
 else ((jw_gI h 6 (some x0) 6).bind fun v3 =>
 if x3 = none then (g_X6_readOrders_b37 k14 h x0 x3 x4 x5 v3 x0 (0 : Int32))
 else (g_X6_readOrders_b37 k14 h x0 x3 x4 x5 v3 x0 (1 : Int32)))

noncomputable def f_X6_readOrders_b14 (n : Nat) : jw_H → Nat → Option Nat → Int32 → Int32 → Option (Int32 × jw_H) :=
 Nat.rec (fun _ _ _ _ _ => none) (fun _ k14 => g_X6_readOrders_b14 k14) n

noncomputable def f_X6_readOrders (h : jw_H) (x0 : Nat) (x1 : Option Nat) (x2 : Int32) : Option (Int32 × jw_H) :=
 (jw_rc h 6 (some x0)).bind fun a1 =>
 jw_b2 (f_X6_begin h a1 x1 x2) fun w3 h2 =>
 f_X6_readOrders_b14  jw_FU h2 x0 none (0 : Int32) (0 : Int32)

set_option maxRecDepth 100000 in
set_option maxHeartbeats 4000000 in
theorem l_X6_readOrders_b167 {hi : jw_H} {k14 : jw_H → Nat → Option Nat → Int32 → Int32 → Option (Int32 × jw_H)} (hk14 : ∀ (h : jw_H) (x0 : Nat) (x3 : Option Nat) (x4 : Int32) (x5 : Int32) (r : Int32) (h' : jw_H), k14 h x0 x3 x4 x5 = some (r, h') → jw_E 6 uX6_readOrders hi 14 [some (.ref x0), none, none, some (va_rf x3), some (.int x4), some (.int x5), none, none] [] h (.inl (some (.int r))) h') {h : jw_H} {x0 : Nat} {x3 : Option Nat} {x4 : Int32} {x5 : Int32} {r : Int32} {h' : jw_H} (hq : g_X6_readOrders_b167 k14 h x0 x3 x4 x5 = some (r, h')) : jw_E 6 uX6_readOrders hi 167 [some (.ref x0), none, none, some (va_rf x3), some (.int x4), some (.int x5), none, none] [] h (.inl (some (.int r))) h' := by
  unfold g_X6_readOrders_b167 at hq
  refine jw_iinc (L' := [some (.ref x0), none, none, some (va_rf x3), some (.int x4), some (.int (x5 + (1 : Int32))), none, none]) dX6_readOrders_167 rfl (v := (1 : Int32)) (by decide) (Nat.le_of_ble_eq_true rfl) rfl ?_
  refine jw_goto (tgt := 14) dX6_readOrders_170 (by decide) ?_
  exact hk14 _ _ _ _ _ _ _ hq

set_option maxRecDepth 100000 in
set_option maxHeartbeats 4000000 in
theorem l_X6_readOrders_b96 {hi : jw_H} {k14 : jw_H → Nat → Option Nat → Int32 → Int32 → Option (Int32 × jw_H)} (hk14 : ∀ (h : jw_H) (x0 : Nat) (x3 : Option Nat) (x4 : Int32) (x5 : Int32) (r : Int32) (h' : jw_H), k14 h x0 x3 x4 x5 = some (r, h') → jw_E 6 uX6_readOrders hi 14 [some (.ref x0), none, none, some (va_rf x3), some (.int x4), some (.int x5), none, none] [] h (.inl (some (.int r))) h') {h : jw_H} {x0 : Nat} {x3 : Option Nat} {x5 : Int32} {t0 : Int32} {r : Int32} {h' : jw_H} (hq : g_X6_readOrders_b96 k14 h x0 x3 x5 t0 = some (r, h')) : jw_E 6 uX6_readOrders hi 96 [some (.ref x0), none, none, some (va_rf x3), none, some (.int x5), none, none] [.int t0] h (.inl (some (.int r))) h' := by
  unfold g_X6_readOrders_b96 at hq
  refine jw_istore (L' := [some (.ref x0), none, none, some (va_rf x3), some (.int t0), some (.int x5), none, none]) dX6_readOrders_96 (Nat.le_of_ble_eq_true rfl) ((jw_st1_of (j := 3) jw_long_rf).trans rfl) ?_
  refine jw_goto (tgt := 167) dX6_readOrders_98 (by decide) ?_
  exact l_X6_readOrders_b167 hk14 hq

set_option maxRecDepth 100000 in
set_option maxHeartbeats 4000000 in
theorem l_X6_readOrders_b95 {hi : jw_H} {k14 : jw_H → Nat → Option Nat → Int32 → Int32 → Option (Int32 × jw_H)} (hk14 : ∀ (h : jw_H) (x0 : Nat) (x3 : Option Nat) (x4 : Int32) (x5 : Int32) (r : Int32) (h' : jw_H), k14 h x0 x3 x4 x5 = some (r, h') → jw_E 6 uX6_readOrders hi 14 [some (.ref x0), none, none, some (va_rf x3), some (.int x4), some (.int x5), none, none] [] h (.inl (some (.int r))) h') {h : jw_H} {x0 : Nat} {x3 : Option Nat} {x5 : Int32} {r : Int32} {h' : jw_H} (hq : g_X6_readOrders_b95 k14 h x0 x3 x5 = some (r, h')) : jw_E 6 uX6_readOrders hi 95 [some (.ref x0), none, none, some (va_rf x3), none, some (.int x5), none, none] [] h (.inl (some (.int r))) h' := by
  unfold g_X6_readOrders_b95 at hq
  refine jw_iconst dX6_readOrders_95 (v := (0 : Int32)) (by decide) ?_
  exact l_X6_readOrders_b96 hk14 hq

set_option maxRecDepth 100000 in
set_option maxHeartbeats 4000000 in
theorem l_X6_readOrders_b152 {hi : jw_H} {h : jw_H} {t0 : Int32} {r : Int32} {h' : jw_H} (hq : g_X6_readOrders_b152  h t0 = some (r, h')) : jw_E 6 uX6_readOrders hi 152 [none, none, none, none, none, none, none, none] [.int t0] h (.inl (some (.int r))) h' := by
  unfold g_X6_readOrders_b152 at hq
  cases hq
  exact jw_iret (ty := .int) dX6_readOrders_152 rfl rfl

set_option maxRecDepth 100000 in
set_option maxHeartbeats 4000000 in
theorem l_X6_readOrders_b129 {hi : jw_H} {k14 : jw_H → Nat → Option Nat → Int32 → Int32 → Option (Int32 × jw_H)} (hk14 : ∀ (h : jw_H) (x0 : Nat) (x3 : Option Nat) (x4 : Int32) (x5 : Int32) (r : Int32) (h' : jw_H), k14 h x0 x3 x4 x5 = some (r, h') → jw_E 6 uX6_readOrders hi 14 [some (.ref x0), none, none, some (va_rf x3), some (.int x4), some (.int x5), none, none] [] h (.inl (some (.int r))) h') {h : jw_H} {x0 : Nat} {x3 : Option Nat} {x4 : Int32} {x5 : Int32} {r : Int32} {h' : jw_H} (hq : g_X6_readOrders_b129 k14 h x0 x3 x4 x5 = some (r, h')) : jw_E 6 uX6_readOrders hi 129 [some (.ref x0), none, none, some (va_rf x3), some (.int x4), some (.int x5), none, none] [] h (.inl (some (.int r))) h' := by
  unfold g_X6_readOrders_b129 at hq
  refine jw_aload_n dX6_readOrders_129 (o := (some x0)) rfl ?_
  obtain ⟨v1, ev1, hq⟩ := Option.bind_eq_some_iff.mp hq
  refine jw_getI (o := (some x0)) dX6_readOrders_130 ev1 fl_X6_43 rfl ?_
  refine jw_aload_n dX6_readOrders_133 (o := (some x0)) rfl ?_
  obtain ⟨v2, ev2, hq⟩ := Option.bind_eq_some_iff.mp hq
  refine jw_getI (o := (some x0)) dX6_readOrders_134 ev2 fl_X6_34 rfl ?_
  rcases jw_if hq with ⟨c3, hq⟩ | ⟨c3, hq⟩
  · refine jw_icmp_lt_t (tgt := 153) dX6_readOrders_137 (by decide) c3 ?_
    refine jw_aload_n dX6_readOrders_153 (o := (some x0)) rfl ?_
    refine jw_bipush dX6_readOrders_154 (v := (59 : Int32)) (by decide) ?_
    obtain ⟨a4, ea4, hq⟩ := Option.bind_eq_some_iff.mp hq
    obtain ⟨eoa4, eta4⟩ := jw_rc_spec ea4
    obtain ⟨w6, h5, ew6, hq⟩ := jw_b2_spec hq
    refine jw_callV (As := [.int (59 : Int32)]) (S := []) (a := a4) (v := some (.int w6)) dX6_readOrders_156 mt_X6_pass in_X6_pass se_X6_pass lk_X6_72 (c_X6_pass ew6) eta4 (by decide) rfl rfl (by decide) (Nat.le_of_ble_eq_true rfl) (by cases eoa4; rfl) ?_
    rcases jw_if hq with ⟨c7, hq⟩ | ⟨c7, hq⟩
    · refine jw_if_ne_f (tgt := 167) dX6_readOrders_159 (by decide) c7 ?_
      refine jw_aload_n dX6_readOrders_162 (o := (some x0)) rfl ?_
      obtain ⟨v8, ev8, hq⟩ := Option.bind_eq_some_iff.mp hq
      refine jw_getI (o := (some x0)) dX6_readOrders_163 ev8 fl_X6_43 rfl ?_
      cases hq
      exact jw_iret (ty := .int) dX6_readOrders_166 rfl rfl
    · refine jw_if_ne_t (tgt := 167) dX6_readOrders_159 (by decide) c7 ?_
      exact l_X6_readOrders_b167 hk14 hq
  · refine jw_icmp_lt_f (tgt := 153) dX6_readOrders_137 (by decide) c3 ?_
    refine jw_aload_n dX6_readOrders_140 (o := x3) rfl ?_
    rcases jw_if hq with ⟨c9, hq⟩ | ⟨c9, hq⟩
    · refine jw_ifnonnull_f (o := x3) dX6_readOrders_141 c9 ?_
      refine jw_iconst dX6_readOrders_144 (v := (-1 : Int32)) (by decide) ?_
      refine jw_goto (tgt := 152) dX6_readOrders_145 (by decide) ?_
      refine jw_forget [false, true, true, false, false, false, true, true] (L' := [none, none, none, none, none, none, none, none]) rfl ?_
      exact l_X6_readOrders_b152  hq
    · refine jw_ifnonnull_t (o := x3) (tgt := 148) dX6_readOrders_141 (by decide) c9 ?_
      refine jw_aload_n dX6_readOrders_148 (o := (some x0)) rfl ?_
      obtain ⟨v10, ev10, hq⟩ := Option.bind_eq_some_iff.mp hq
      refine jw_getI (o := (some x0)) dX6_readOrders_149 ev10 fl_X6_34 rfl ?_
      refine jw_forget [false, true, true, false, false, false, true, true] (L' := [none, none, none, none, none, none, none, none]) rfl ?_
      exact l_X6_readOrders_b152  hq

set_option maxRecDepth 100000 in
set_option maxHeartbeats 4000000 in
theorem l_X6_readOrders_b119 {hi : jw_H} {k14 : jw_H → Nat → Option Nat → Int32 → Int32 → Option (Int32 × jw_H)} (hk14 : ∀ (h : jw_H) (x0 : Nat) (x3 : Option Nat) (x4 : Int32) (x5 : Int32) (r : Int32) (h' : jw_H), k14 h x0 x3 x4 x5 = some (r, h') → jw_E 6 uX6_readOrders hi 14 [some (.ref x0), none, none, some (va_rf x3), some (.int x4), some (.int x5), none, none] [] h (.inl (some (.int r))) h') {h : jw_H} {x0 : Nat} {x3 : Option Nat} {x4 : Int32} {x5 : Int32} {r : Int32} {h' : jw_H} (hq : g_X6_readOrders_b119 k14 h x0 x3 x4 x5 = some (r, h')) : jw_E 6 uX6_readOrders hi 119 [some (.ref x0), none, none, some (va_rf x3), some (.int x4), some (.int x5), none, none] [] h (.inl (some (.int r))) h' := by
  unfold g_X6_readOrders_b119 at hq
  refine jw_aload_n dX6_readOrders_119 (o := x3) rfl ?_
  refine jw_aload_n dX6_readOrders_120 (o := (some x0)) rfl ?_
  obtain ⟨v1, ev1, hq⟩ := Option.bind_eq_some_iff.mp hq
  refine jw_getI (o := (some x0)) dX6_readOrders_121 ev1 fl_X6_30 rfl ?_
  obtain ⟨h2, eh2, hq⟩ := Option.bind_eq_some_iff.mp hq
  refine jw_putI (o := x3) dX6_readOrders_124 eh2 fl_X6_76 rfl rfl ?_
  refine jw_null dX6_readOrders_127 ?_
  refine jw_astore_n (o := none) (L' := [some (.ref x0), none, none, some (va_rf none), some (.int x4), some (.int x5), none, none]) dX6_readOrders_128 (Nat.le_of_ble_eq_true rfl) rfl ?_
  exact l_X6_readOrders_b129 hk14 hq

set_option maxRecDepth 100000 in
set_option maxHeartbeats 4000000 in
theorem l_X6_readOrders_b101 {hi : jw_H} {k14 : jw_H → Nat → Option Nat → Int32 → Int32 → Option (Int32 × jw_H)} (hk14 : ∀ (h : jw_H) (x0 : Nat) (x3 : Option Nat) (x4 : Int32) (x5 : Int32) (r : Int32) (h' : jw_H), k14 h x0 x3 x4 x5 = some (r, h') → jw_E 6 uX6_readOrders hi 14 [some (.ref x0), none, none, some (va_rf x3), some (.int x4), some (.int x5), none, none] [] h (.inl (some (.int r))) h') {h : jw_H} {x0 : Nat} {x3 : Option Nat} {x4 : Int32} {x5 : Int32} {r : Int32} {h' : jw_H} (hq : g_X6_readOrders_b101 k14 h x0 x3 x4 x5 = some (r, h')) : jw_E 6 uX6_readOrders hi 101 [some (.ref x0), none, none, some (va_rf x3), some (.int x4), some (.int x5), none, none] [] h (.inl (some (.int r))) h' := by
  unfold g_X6_readOrders_b101 at hq
  refine jw_aload_n dX6_readOrders_101 (o := x3) rfl ?_
  rcases jw_if hq with ⟨c1, hq⟩ | ⟨c1, hq⟩
  · refine jw_ifnull_t (o := x3) (tgt := 129) dX6_readOrders_102 (by decide) c1 ?_
    exact l_X6_readOrders_b129 hk14 hq
  · refine jw_ifnull_f (o := x3) dX6_readOrders_102 c1 ?_
    refine jw_iload dX6_readOrders_105 rfl ?_
    rcases jw_if hq with ⟨c2, hq⟩ | ⟨c2, hq⟩
    · refine jw_if_ne_f (tgt := 119) dX6_readOrders_107 (by decide) c2 ?_
      refine jw_aload_n dX6_readOrders_110 (o := (some x0)) rfl ?_
      refine jw_bipush dX6_readOrders_111 (v := (125 : Int32)) (by decide) ?_
      obtain ⟨a3, ea3, hq⟩ := Option.bind_eq_some_iff.mp hq
      obtain ⟨eoa3, eta3⟩ := jw_rc_spec ea3
      obtain ⟨w5, h4, ew5, hq⟩ := jw_b2_spec hq
      refine jw_callV (As := [.int (125 : Int32)]) (S := []) (a := a3) (v := some (.int w5)) dX6_readOrders_113 mt_X6_pass in_X6_pass se_X6_pass lk_X6_72 (c_X6_pass ew5) eta3 (by decide) rfl rfl (by decide) (Nat.le_of_ble_eq_true rfl) (by cases eoa3; rfl) ?_
      rcases jw_if hq with ⟨c6, hq⟩ | ⟨c6, hq⟩
      · refine jw_if_eq_t (tgt := 129) dX6_readOrders_116 (by decide) c6 ?_
        exact l_X6_readOrders_b129 hk14 hq
      · refine jw_if_eq_f (tgt := 129) dX6_readOrders_116 (by decide) c6 ?_
        exact l_X6_readOrders_b119 hk14 hq
    · refine jw_if_ne_t (tgt := 119) dX6_readOrders_107 (by decide) c2 ?_
      exact l_X6_readOrders_b119 hk14 hq

set_option maxRecDepth 100000 in
set_option maxHeartbeats 4000000 in
theorem l_X6_readOrders_b37 {hi : jw_H} {k14 : jw_H → Nat → Option Nat → Int32 → Int32 → Option (Int32 × jw_H)} (hk14 : ∀ (h : jw_H) (x0 : Nat) (x3 : Option Nat) (x4 : Int32) (x5 : Int32) (r : Int32) (h' : jw_H), k14 h x0 x3 x4 x5 = some (r, h') → jw_E 6 uX6_readOrders hi 14 [some (.ref x0), none, none, some (va_rf x3), some (.int x4), some (.int x5), none, none] [] h (.inl (some (.int r))) h') {h : jw_H} {x0 : Nat} {x3 : Option Nat} {x4 : Int32} {x5 : Int32} {x6 : Int32} {t0 : Nat} {t1 : Int32} {r : Int32} {h' : jw_H} (hq : g_X6_readOrders_b37 k14 h x0 x3 x4 x5 x6 t0 t1 = some (r, h')) : jw_E 6 uX6_readOrders hi 37 [some (.ref x0), none, none, some (va_rf x3), some (.int x4), some (.int x5), some (.int x6), none] [.int t1, .ref t0] h (.inl (some (.int r))) h' := by
  unfold g_X6_readOrders_b37 at hq
  obtain ⟨a1, ea1, hq⟩ := Option.bind_eq_some_iff.mp hq
  obtain ⟨eoa1, eta1⟩ := jw_rc_spec ea1
  obtain ⟨w3, h2, ew3, hq⟩ := jw_b2_spec hq
  refine jw_callV (As := [.int t1]) (S := []) (a := a1) (v := some (.int w3)) dX6_readOrders_37 mt_X6_readOrder in_X6_readOrder se_X6_readOrder lk_X6_57 (c_X6_readOrder ew3) eta1 (by decide) rfl rfl (by decide) (Nat.le_of_ble_eq_true rfl) (by cases eoa1; rfl) ?_
  rcases jw_if hq with ⟨c4, hq⟩ | ⟨c4, hq⟩
  · refine jw_if_ne_f (tgt := 48) dX6_readOrders_40 (by decide) c4 ?_
    refine jw_aload_n dX6_readOrders_43 (o := (some x0)) rfl ?_
    obtain ⟨v19, ev19, hq⟩ := Option.bind_eq_some_iff.mp hq
    refine jw_getI (o := (some x0)) dX6_readOrders_44 ev19 fl_X6_43 rfl ?_
    cases hq
    exact jw_iret (ty := .int) dX6_readOrders_47 rfl rfl
  · refine jw_if_ne_t (tgt := 48) dX6_readOrders_40 (by decide) c4 ?_
    refine jw_aload_n dX6_readOrders_48 (o := (some x0)) rfl ?_
    refine jw_iload dX6_readOrders_49 rfl ?_
    obtain ⟨a5, ea5, hq⟩ := Option.bind_eq_some_iff.mp hq
    obtain ⟨eoa5, eta5⟩ := jw_rc_spec ea5
    obtain ⟨w7, h6, ew7, hq⟩ := jw_b2_spec hq
    refine jw_callV (As := [.int x6]) (S := []) (a := a5) (v := some (va_rf w7)) dX6_readOrders_51 mt_X6_orderAt in_X6_orderAt se_X6_orderAt lk_X6_61 (c_X6_orderAt ew7) eta5 (by decide) rfl rfl (by decide) (Nat.le_of_ble_eq_true rfl) (by cases eoa5; rfl) ?_
    refine jw_astore (o := w7) (L' := [some (.ref x0), none, none, some (va_rf x3), some (.int x4), some (.int x5), some (.int x6), some (va_rf w7)]) dX6_readOrders_54 (Nat.le_of_ble_eq_true rfl) rfl ?_
    refine jw_aload dX6_readOrders_56 (o := w7) rfl ?_
    rcases jw_if hq with ⟨c8, hq⟩ | ⟨c8, hq⟩
    · refine jw_ifnull_t (o := w7) (tgt := 101) dX6_readOrders_58 (by decide) c8 ?_
      refine jw_forget [true, true, true, true, true, true, false, false] (L' := [some (.ref x0), none, none, some (va_rf x3), some (.int x4), some (.int x5), none, none]) rfl ?_
      exact l_X6_readOrders_b101 hk14 hq
    · refine jw_ifnull_f (o := w7) dX6_readOrders_58 c8 ?_
      refine jw_aload dX6_readOrders_61 (o := w7) rfl ?_
      obtain ⟨a9, ea9, hq⟩ := Option.bind_eq_some_iff.mp hq
      obtain ⟨eoa9, eta9⟩ := jw_rc_spec ea9
      obtain ⟨w11, h10, ew11, hq⟩ := jw_b2_spec hq
      refine jw_callV (As := []) (S := []) (a := a9) (v := some (.int w11)) dX6_readOrders_63 mt_X5_holdsOthers in_X5_holdsOthers se_X5_holdsOthers lk_X6_65 (c_X5_holdsOthers ew11) eta9 (by decide) rfl rfl (by decide) (Nat.le_of_ble_eq_true rfl) (by cases eoa9; rfl) ?_
      rcases jw_if hq with ⟨c12, hq⟩ | ⟨c12, hq⟩
      · refine jw_if_eq_t (tgt := 101) dX6_readOrders_66 (by decide) c12 ?_
        refine jw_forget [true, true, true, true, true, true, false, false] (L' := [some (.ref x0), none, none, some (va_rf x3), some (.int x4), some (.int x5), none, none]) rfl ?_
        exact l_X6_readOrders_b101 hk14 hq
      · refine jw_if_eq_f (tgt := 101) dX6_readOrders_66 (by decide) c12 ?_
        refine jw_aload dX6_readOrders_69 (o := w7) rfl ?_
        refine jw_astore_n (o := w7) (L' := [some (.ref x0), none, none, some (va_rf w7), some (.int x4), some (.int x5), some (.int x6), some (va_rf w7)]) dX6_readOrders_71 (Nat.le_of_ble_eq_true rfl) rfl ?_
        refine jw_aload dX6_readOrders_72 (o := w7) rfl ?_
        obtain ⟨v13, ev13, hq⟩ := Option.bind_eq_some_iff.mp hq
        refine jw_getI (o := w7) dX6_readOrders_74 ev13 fl_X6_69 rfl ?_
        refine jw_bipush dX6_readOrders_77 (v := (123 : Int32)) (by decide) ?_
        rcases jw_if hq with ⟨c14, hq⟩ | ⟨c14, hq⟩
        · refine jw_icmp_eq_t (tgt := 95) dX6_readOrders_79 (by decide) c14 ?_
          refine jw_forget [true, true, true, true, false, true, false, false] (L' := [some (.ref x0), none, none, some (va_rf w7), none, some (.int x5), none, none]) rfl ?_
          exact l_X6_readOrders_b95 hk14 hq
        · refine jw_icmp_eq_f (tgt := 95) dX6_readOrders_79 (by decide) c14 ?_
          refine jw_aload_n dX6_readOrders_82 (o := (some x0)) rfl ?_
          refine jw_bipush dX6_readOrders_83 (v := (123 : Int32)) (by decide) ?_
          obtain ⟨a15, ea15, hq⟩ := Option.bind_eq_some_iff.mp hq
          obtain ⟨eoa15, eta15⟩ := jw_rc_spec ea15
          obtain ⟨w17, h16, ew17, hq⟩ := jw_b2_spec hq
          refine jw_callV (As := [.int (123 : Int32)]) (S := []) (a := a15) (v := some (.int w17)) dX6_readOrders_85 mt_X6_pass in_X6_pass se_X6_pass lk_X6_72 (c_X6_pass ew17) eta15 (by decide) rfl rfl (by decide) (Nat.le_of_ble_eq_true rfl) (by cases eoa15; rfl) ?_
          rcases jw_if hq with ⟨c18, hq⟩ | ⟨c18, hq⟩
          · refine jw_if_ne_f (tgt := 95) dX6_readOrders_88 (by decide) c18 ?_
            refine jw_iconst dX6_readOrders_91 (v := (1 : Int32)) (by decide) ?_
            refine jw_goto (tgt := 96) dX6_readOrders_92 (by decide) ?_
            refine jw_forget [true, true, true, true, false, true, false, false] (L' := [some (.ref x0), none, none, some (va_rf w7), none, some (.int x5), none, none]) rfl ?_
            exact l_X6_readOrders_b96 hk14 hq
          · refine jw_if_ne_t (tgt := 95) dX6_readOrders_88 (by decide) c18 ?_
            refine jw_forget [true, true, true, true, false, true, false, false] (L' := [some (.ref x0), none, none, some (va_rf w7), none, some (.int x5), none, none]) rfl ?_
            exact l_X6_readOrders_b95 hk14 hq

set_option maxRecDepth 100000 in
set_option maxHeartbeats 4000000 in
theorem l_X6_readOrders_b14g {hi : jw_H} {k14 : jw_H → Nat → Option Nat → Int32 → Int32 → Option (Int32 × jw_H)} (hk14 : ∀ (h : jw_H) (x0 : Nat) (x3 : Option Nat) (x4 : Int32) (x5 : Int32) (r : Int32) (h' : jw_H), k14 h x0 x3 x4 x5 = some (r, h') → jw_E 6 uX6_readOrders hi 14 [some (.ref x0), none, none, some (va_rf x3), some (.int x4), some (.int x5), none, none] [] h (.inl (some (.int r))) h') {h : jw_H} {x0 : Nat} {x3 : Option Nat} {x4 : Int32} {x5 : Int32} {r : Int32} {h' : jw_H} (hq : g_X6_readOrders_b14 k14 h x0 x3 x4 x5 = some (r, h')) : jw_E 6 uX6_readOrders hi 14 [some (.ref x0), none, none, some (va_rf x3), some (.int x4), some (.int x5), none, none] [] h (.inl (some (.int r))) h' := by
  unfold g_X6_readOrders_b14 at hq
  refine jw_iload dX6_readOrders_14 rfl ?_
  refine jw_bipush dX6_readOrders_16 (v := (60 : Int32)) (by decide) ?_
  rcases jw_if hq with ⟨c1, hq⟩ | ⟨c1, hq⟩
  · refine jw_icmp_gt_t (tgt := 173) dX6_readOrders_18 (by decide) c1 ?_
    refine jw_aload_n dX6_readOrders_173 (o := (some x0)) rfl ?_
    obtain ⟨v2, ev2, hq⟩ := Option.bind_eq_some_iff.mp hq
    refine jw_getI (o := (some x0)) dX6_readOrders_174 ev2 fl_X6_43 rfl ?_
    cases hq
    exact jw_iret (ty := .int) dX6_readOrders_177 rfl rfl
  · refine jw_icmp_gt_f (tgt := 173) dX6_readOrders_18 (by decide) c1 ?_
    refine jw_aload_n dX6_readOrders_21 (o := (some x0)) rfl ?_
    obtain ⟨v3, ev3, hq⟩ := Option.bind_eq_some_iff.mp hq
    refine jw_getI (o := (some x0)) dX6_readOrders_22 ev3 fl_X6_30 rfl ?_
    refine jw_istore (L' := [some (.ref x0), none, none, some (va_rf x3), some (.int x4), some (.int x5), some (.int v3), none]) dX6_readOrders_25 (Nat.le_of_ble_eq_true rfl) rfl ?_
    refine jw_aload_n dX6_readOrders_27 (o := (some x0)) rfl ?_
    refine jw_aload_n dX6_readOrders_28 (o := x3) rfl ?_
    rcases jw_if hq with ⟨c4, hq⟩ | ⟨c4, hq⟩
    · refine jw_ifnull_t (o := x3) (tgt := 36) dX6_readOrders_29 (by decide) c4 ?_
      refine jw_iconst dX6_readOrders_36 (v := (0 : Int32)) (by decide) ?_
      exact l_X6_readOrders_b37 hk14 hq
    · refine jw_ifnull_f (o := x3) dX6_readOrders_29 c4 ?_
      refine jw_iconst dX6_readOrders_32 (v := (1 : Int32)) (by decide) ?_
      refine jw_goto (tgt := 37) dX6_readOrders_33 (by decide) ?_
      exact l_X6_readOrders_b37 hk14 hq

theorem l_X6_readOrders_b14 {hi : jw_H} : ∀ (n : Nat) (h : jw_H) (x0 : Nat) (x3 : Option Nat) (x4 : Int32) (x5 : Int32) (r : Int32) (h' : jw_H), f_X6_readOrders_b14  n h x0 x3 x4 x5 = some (r, h') → jw_E 6 uX6_readOrders hi 14 [some (.ref x0), none, none, some (va_rf x3), some (.int x4), some (.int x5), none, none] [] h (.inl (some (.int r))) h' := by
  intro n
  induction n with
  | zero => intro h x0 x3 x4 x5 r h' hq; exact nomatch hq
  | succ n ih => intro h x0 x3 x4 x5 r h' hq; exact l_X6_readOrders_b14g ih hq

set_option maxRecDepth 100000 in
set_option maxHeartbeats 4000000 in
theorem l_X6_readOrders {hi : jw_H} {h : jw_H} {x0 : Nat} {x1 : Option Nat} {x2 : Int32} {r : Int32} {h' : jw_H} (hq : f_X6_readOrders  h x0 x1 x2 = some (r, h')) : jw_E 6 uX6_readOrders hi 0 [some (.ref x0), some (va_rf x1), some (.int x2), none, none, none, none, none] [] h (.inl (some (.int r))) h' := by
  unfold f_X6_readOrders at hq
  refine jw_aload_n dX6_readOrders_0 (o := (some x0)) rfl ?_
  refine jw_aload_n dX6_readOrders_1 (o := x1) rfl ?_
  refine jw_iload_n dX6_readOrders_2 rfl ?_
  obtain ⟨a1, ea1, hq⟩ := Option.bind_eq_some_iff.mp hq
  obtain ⟨eoa1, eta1⟩ := jw_rc_spec ea1
  obtain ⟨w3, h2, ew3, hq⟩ := jw_b2_spec hq
  refine jw_callV (As := [va_rf x1, .int x2]) (S := []) (a := a1) (v := none) dX6_readOrders_3 mt_X6_begin in_X6_begin se_X6_begin lk_X6_49 (c_X6_begin ew3) eta1 (by decide) rfl rfl (by decide) (Nat.le_of_ble_eq_true rfl) (by cases eoa1; rfl) ?_
  refine jw_null dX6_readOrders_6 ?_
  refine jw_astore_n (o := none) (L' := [some (.ref x0), some (va_rf x1), some (.int x2), some (va_rf none), none, none, none, none]) dX6_readOrders_7 (Nat.le_of_ble_eq_true rfl) rfl ?_
  refine jw_iconst dX6_readOrders_8 (v := (0 : Int32)) (by decide) ?_
  refine jw_istore (L' := [some (.ref x0), some (va_rf x1), some (.int x2), some (va_rf none), some (.int (0 : Int32)), none, none, none]) dX6_readOrders_9 (Nat.le_of_ble_eq_true rfl) rfl ?_
  refine jw_iconst dX6_readOrders_11 (v := (0 : Int32)) (by decide) ?_
  refine jw_istore (L' := [some (.ref x0), some (va_rf x1), some (.int x2), some (va_rf none), some (.int (0 : Int32)), some (.int (0 : Int32)), none, none]) dX6_readOrders_12 (Nat.le_of_ble_eq_true rfl) rfl ?_
  refine jw_forget [true, false, false, true, true, true, true, true] (L' := [some (.ref x0), none, none, some (va_rf none), some (.int (0 : Int32)), some (.int (0 : Int32)), none, none]) rfl ?_
  exact l_X6_readOrders_b14  jw_FU _ _ _ _ _ _ _ hq

theorem c_X6_readOrders {h : jw_H} {x0 : Nat} {x1 : Option Nat} {x2 : Int32} {r : Int32} {h' : jw_H} (hq : f_X6_readOrders h x0 x1 x2 = some (r, h')) : jw_Con (Cond.code yX6_readOrders cX6_readOrders 8 (some .int)) yX6_readOrders 6 [.ref x0, va_rf x1, .int x2] h (.inl (some (.int r))) h' :=
  jw_con false (plainFor_of_name (by decide +kernel)) (fun z => nomatch z) (by simp [jw_ent, jw_sl0_nil, jw_sl0_int, jw_sl0_long, jw_sl0_ref, jw_sl0_rf, jw_sl0_scr, List.replicate]) (by simp [jw_sl0_nil, jw_sl0_int, jw_sl0_long, jw_sl0_ref, jw_sl0_rf, jw_sl0_scr]) (l_X6_readOrders hq)


/-! X11_fault -/
noncomputable def f_X11_fault (h : jw_H) (x0 : Nat) : Option (Int32 × jw_H) :=
 (jw_gR h 11 (some x0) 5).bind fun v1 =>
 (jw_gR h 11 (some x0) 0).bind fun v2 =>
 (jw_gI h 11 (some x0) 12).bind fun v3 =>
 (jw_rc h 6 v1).bind fun a4 =>
 jw_b2 (f_X6_readOrders h a4 v2 v3) fun w6 h5 =>
 some (w6, h5)

set_option maxRecDepth 100000 in
set_option maxHeartbeats 4000000 in
theorem l_X11_fault {hi : jw_H} {h : jw_H} {x0 : Nat} {r : Int32} {h' : jw_H} (hq : f_X11_fault  h x0 = some (r, h')) : jw_E 7 uX11_fault hi 0 [some (.ref x0)] [] h (.inl (some (.int r))) h' := by
  unfold f_X11_fault at hq
  refine jw_aload_n dX11_fault_0 (o := (some x0)) rfl ?_
  obtain ⟨v1, ev1, hq⟩ := Option.bind_eq_some_iff.mp hq
  refine jw_getR (o := (some x0)) dX11_fault_1 ev1 fl_X11_31 rfl ?_
  refine jw_aload_n dX11_fault_4 (o := (some x0)) rfl ?_
  obtain ⟨v2, ev2, hq⟩ := Option.bind_eq_some_iff.mp hq
  refine jw_getR (o := (some x0)) dX11_fault_5 ev2 fl_X11_9 rfl ?_
  refine jw_aload_n dX11_fault_8 (o := (some x0)) rfl ?_
  obtain ⟨v3, ev3, hq⟩ := Option.bind_eq_some_iff.mp hq
  refine jw_getI (o := (some x0)) dX11_fault_9 ev3 fl_X11_95 rfl ?_
  obtain ⟨a4, ea4, hq⟩ := Option.bind_eq_some_iff.mp hq
  obtain ⟨eoa4, eta4⟩ := jw_rc_spec ea4
  obtain ⟨w6, h5, ew6, hq⟩ := jw_b2_spec hq
  refine jw_callV (As := [va_rf v2, .int v3]) (S := []) (a := a4) (v := some (.int w6)) dX11_fault_12 mt_X6_readOrders in_X6_readOrders se_X6_readOrders lk_X11_104 (c_X6_readOrders ew6) eta4 (by decide) rfl rfl (by decide) (Nat.le_of_ble_eq_true rfl) (by cases eoa4; rfl) ?_
  cases hq
  exact jw_iret (ty := .int) dX11_fault_15 rfl rfl

theorem c_X11_fault {h : jw_H} {x0 : Nat} {r : Int32} {h' : jw_H} (hq : f_X11_fault h x0 = some (r, h')) : jw_Con (Cond.code yX11_fault cX11_fault 1 (some .int)) yX11_fault 7 [.ref x0] h (.inl (some (.int r))) h' :=
  jw_con false (plainFor_of_name (by decide +kernel)) (fun z => nomatch z) (by simp [jw_ent, jw_sl0_nil, jw_sl0_int, jw_sl0_long, jw_sl0_ref, jw_sl0_rf, jw_sl0_scr, List.replicate]) (by simp [jw_sl0_nil, jw_sl0_int, jw_sl0_long, jw_sl0_ref, jw_sl0_rf, jw_sl0_scr]) (l_X11_fault hq)


/-! J9_floorMod_7cf53 -/
noncomputable def f_J9_floorMod_7cf53 (h : jw_H) (x0 : Int32) (x1 : Int32) : Option (Int32 × jw_H) :=
 (jw_nz x1).bind fun v1 =>
 if 0 ≤ (x0 ^^^ x1) then (some ((x0 - x0 / x1 * x1), h))
 else (if (x0 - x0 / x1 * x1) = 0 then (some ((x0 - x0 / x1 * x1), h))
 else (some (((x0 - x0 / x1 * x1) + x1), h)))

set_option maxRecDepth 100000 in
set_option maxHeartbeats 4000000 in
theorem l_J9_floorMod_7cf53 {hi : jw_H} {h : jw_H} {x0 : Int32} {x1 : Int32} {r : Int32} {h' : jw_H} (hq : f_J9_floorMod_7cf53  h x0 x1 = some (r, h')) : jw_E 0 uJ9_floorMod_7cf53 hi 0 [some (.int x0), some (.int x1), none] [] h (.inl (some (.int r))) h' := by
  unfold f_J9_floorMod_7cf53 at hq
  refine jw_iload_n dJ9_floorMod_7cf53_0 rfl ?_
  refine jw_iload_n dJ9_floorMod_7cf53_1 rfl ?_
  obtain ⟨v1, ev1, hq⟩ := Option.bind_eq_some_iff.mp hq
  refine jw_irem dJ9_floorMod_7cf53_2 (jw_nz_spec ev1) ?_
  refine jw_istore_n (L' := [some (.int x0), some (.int x1), some (.int (x0 - x0 / x1 * x1))]) dJ9_floorMod_7cf53_3 (Nat.le_of_ble_eq_true rfl) rfl ?_
  refine jw_iload_n dJ9_floorMod_7cf53_4 rfl ?_
  refine jw_iload_n dJ9_floorMod_7cf53_5 rfl ?_
  refine jw_ixor dJ9_floorMod_7cf53_6 ?_
  rcases jw_if hq with ⟨c2, hq⟩ | ⟨c2, hq⟩
  · refine jw_if_ge_t (tgt := 18) dJ9_floorMod_7cf53_7 (by decide) c2 ?_
    refine jw_iload_n dJ9_floorMod_7cf53_18 rfl ?_
    cases hq
    exact jw_iret (ty := .int) dJ9_floorMod_7cf53_19 rfl rfl
  · refine jw_if_ge_f (tgt := 18) dJ9_floorMod_7cf53_7 (by decide) c2 ?_
    refine jw_iload_n dJ9_floorMod_7cf53_10 rfl ?_
    rcases jw_if hq with ⟨c3, hq⟩ | ⟨c3, hq⟩
    · refine jw_if_eq_t (tgt := 18) dJ9_floorMod_7cf53_11 (by decide) c3 ?_
      refine jw_iload_n dJ9_floorMod_7cf53_18 rfl ?_
      cases hq
      exact jw_iret (ty := .int) dJ9_floorMod_7cf53_19 rfl rfl
    · refine jw_if_eq_f (tgt := 18) dJ9_floorMod_7cf53_11 (by decide) c3 ?_
      refine jw_iload_n dJ9_floorMod_7cf53_14 rfl ?_
      refine jw_iload_n dJ9_floorMod_7cf53_15 rfl ?_
      refine jw_iadd dJ9_floorMod_7cf53_16 ?_
      cases hq
      exact jw_iret (ty := .int) dJ9_floorMod_7cf53_17 rfl rfl

theorem c_J9_floorMod_7cf53 {h : jw_H} {x0 : Int32} {x1 : Int32} {r : Int32} {h' : jw_H} (hq : f_J9_floorMod_7cf53 h x0 x1 = some (r, h')) : jw_Con (Cond.code yJ9_floorMod_7cf53 cJ9_floorMod_7cf53 3 (some .int)) yJ9_floorMod_7cf53 0 [.int x0, .int x1] h (.inl (some (.int r))) h' :=
  jw_con false (by decide +kernel) (fun z => nomatch z) (by simp [jw_ent, jw_sl0_nil, jw_sl0_int, jw_sl0_long, jw_sl0_ref, jw_sl0_rf, jw_sl0_scr, List.replicate]) (by simp [jw_sl0_nil, jw_sl0_int, jw_sl0_long, jw_sl0_ref, jw_sl0_rf, jw_sl0_scr]) (l_J9_floorMod_7cf53 hq)


/-! X3_slotOf -/
noncomputable def f_X3_slotOf (h : jw_H) (x0 : Nat) (x1 : Int32) : Option (Int32 × jw_H) :=
 (jw_gI h 3 (some x0) 2).bind fun v1 =>
 jw_b2 (f_J9_floorMod_7cf53 h (v1 + x1) (41 : Int32)) fun w3 h2 =>
 some (w3, h2)

set_option maxRecDepth 100000 in
set_option maxHeartbeats 4000000 in
theorem l_X3_slotOf {hi : jw_H} {h : jw_H} {x0 : Nat} {x1 : Int32} {r : Int32} {h' : jw_H} (hq : f_X3_slotOf  h x0 x1 = some (r, h')) : jw_E 1 uX3_slotOf hi 0 [some (.ref x0), some (.int x1)] [] h (.inl (some (.int r))) h' := by
  unfold f_X3_slotOf at hq
  refine jw_aload_n dX3_slotOf_0 (o := (some x0)) rfl ?_
  obtain ⟨v1, ev1, hq⟩ := Option.bind_eq_some_iff.mp hq
  refine jw_getI (o := (some x0)) dX3_slotOf_1 ev1 fl_X3_22 rfl ?_
  refine jw_iload_n dX3_slotOf_4 rfl ?_
  refine jw_iadd dX3_slotOf_5 ?_
  refine jw_bipush dX3_slotOf_6 (v := (41 : Int32)) (by decide) ?_
  obtain ⟨w3, h2, ew3, hq⟩ := jw_b2_spec hq
  refine jw_callS (As := [.int (v1 + x1), .int (41 : Int32)]) (S := []) (v := some (.int w3)) dX3_slotOf_8 mt_J9_floorMod_7cf53 st_J9_floorMod_7cf53 lk_X3_26 (c_J9_floorMod_7cf53 ew3) rfl (by decide) (Nat.le_of_ble_eq_true rfl) rfl ?_
  cases hq
  exact jw_iret (ty := .int) dX3_slotOf_11 rfl rfl

theorem c_X3_slotOf {h : jw_H} {x0 : Nat} {x1 : Int32} {r : Int32} {h' : jw_H} (hq : f_X3_slotOf h x0 x1 = some (r, h')) : jw_Con (Cond.code yX3_slotOf cX3_slotOf 2 (some .int)) yX3_slotOf 1 [.ref x0, .int x1] h (.inl (some (.int r))) h' :=
  jw_con false (plainFor_of_name (by decide +kernel)) (fun z => nomatch z) (by simp [jw_ent, jw_sl0_nil, jw_sl0_int, jw_sl0_long, jw_sl0_ref, jw_sl0_rf, jw_sl0_scr, List.replicate]) (by simp [jw_sl0_nil, jw_sl0_int, jw_sl0_long, jw_sl0_ref, jw_sl0_rf, jw_sl0_scr]) (l_X3_slotOf hq)


/-! X3_slot -/
noncomputable def g_X3_slot_b29 (h : jw_H) (t0 : Option Nat) : Option ((Option Nat) × jw_H) :=
 some (t0, h)

noncomputable def g_X3_slot_b28 (h : jw_H)  : Option ((Option Nat) × jw_H) :=
 g_X3_slot_b29  h none

noncomputable def f_X3_slot (h : jw_H) (x0 : Nat) (x1 : Int32) : Option ((Option Nat) × jw_H) :=
 (jw_rc h 3 (some x0)).bind fun a1 =>
 jw_b2 (f_X3_slotOf h a1 x1) fun w3 h2 =>
 if w3 < 0 then (g_X3_slot_b28  h2 )
 else ((jw_gR h2 3 (some x0) 0).bind fun v5 =>
 (jw_ln h2 v5).bind fun v6 =>
 if v6 ≤ w3 then (g_X3_slot_b28  h2 )
 else ((jw_gR h2 3 (some x0) 0).bind fun v8 =>
 (jw_ar h2 39 v8 w3).bind fun v9 =>
 g_X3_slot_b29  h2 v9))

set_option maxRecDepth 100000 in
set_option maxHeartbeats 4000000 in
theorem l_X3_slot_b29 {hi : jw_H} {h : jw_H} {t0 : Option Nat} {r : Option Nat} {h' : jw_H} (hq : g_X3_slot_b29  h t0 = some (r, h')) : jw_E 2 uX3_slot hi 29 [none, none, none] [va_rf t0] h (.inl (some (va_rf r))) h' := by
  unfold g_X3_slot_b29 at hq
  cases hq
  exact jw_aret (x := t0) dX3_slot_29 rfl rfl

set_option maxRecDepth 100000 in
set_option maxHeartbeats 4000000 in
theorem l_X3_slot_b28 {hi : jw_H} {h : jw_H}  {r : Option Nat} {h' : jw_H} (hq : g_X3_slot_b28  h  = some (r, h')) : jw_E 2 uX3_slot hi 28 [none, none, none] [] h (.inl (some (va_rf r))) h' := by
  unfold g_X3_slot_b28 at hq
  refine jw_null dX3_slot_28 ?_
  exact l_X3_slot_b29  hq

set_option maxRecDepth 100000 in
set_option maxHeartbeats 4000000 in
theorem l_X3_slot {hi : jw_H} {h : jw_H} {x0 : Nat} {x1 : Int32} {r : Option Nat} {h' : jw_H} (hq : f_X3_slot  h x0 x1 = some (r, h')) : jw_E 2 uX3_slot hi 0 [some (.ref x0), some (.int x1), none] [] h (.inl (some (va_rf r))) h' := by
  unfold f_X3_slot at hq
  refine jw_aload_n dX3_slot_0 (o := (some x0)) rfl ?_
  refine jw_iload_n dX3_slot_1 rfl ?_
  obtain ⟨a1, ea1, hq⟩ := Option.bind_eq_some_iff.mp hq
  obtain ⟨eoa1, eta1⟩ := jw_rc_spec ea1
  obtain ⟨w3, h2, ew3, hq⟩ := jw_b2_spec hq
  refine jw_callV (As := [.int x1]) (S := []) (a := a1) (v := some (.int w3)) dX3_slot_2 mt_X3_slotOf in_X3_slotOf se_X3_slotOf lk_X3_32 (c_X3_slotOf ew3) eta1 (by decide) rfl rfl (by decide) (Nat.le_of_ble_eq_true rfl) (by cases eoa1; rfl) ?_
  refine jw_istore_n (L' := [some (.ref x0), some (.int x1), some (.int w3)]) dX3_slot_5 (Nat.le_of_ble_eq_true rfl) rfl ?_
  refine jw_iload_n dX3_slot_6 rfl ?_
  rcases jw_if hq with ⟨c4, hq⟩ | ⟨c4, hq⟩
  · refine jw_if_lt_t (tgt := 28) dX3_slot_7 (by decide) c4 ?_
    refine jw_forget [false, false, false] (L' := [none, none, none]) rfl ?_
    exact l_X3_slot_b28  hq
  · refine jw_if_lt_f (tgt := 28) dX3_slot_7 (by decide) c4 ?_
    refine jw_iload_n dX3_slot_10 rfl ?_
    refine jw_aload_n dX3_slot_11 (o := (some x0)) rfl ?_
    obtain ⟨v5, ev5, hq⟩ := Option.bind_eq_some_iff.mp hq
    refine jw_getR (o := (some x0)) dX3_slot_12 ev5 fl_X3_11 rfl ?_
    obtain ⟨v6, ev6, hq⟩ := Option.bind_eq_some_iff.mp hq
    refine jw_alen (o := v5) dX3_slot_15 ev6 ?_
    rcases jw_if hq with ⟨c7, hq⟩ | ⟨c7, hq⟩
    · refine jw_icmp_ge_t (tgt := 28) dX3_slot_16 (by decide) c7 ?_
      refine jw_forget [false, false, false] (L' := [none, none, none]) rfl ?_
      exact l_X3_slot_b28  hq
    · refine jw_icmp_ge_f (tgt := 28) dX3_slot_16 (by decide) c7 ?_
      refine jw_aload_n dX3_slot_19 (o := (some x0)) rfl ?_
      obtain ⟨v8, ev8, hq⟩ := Option.bind_eq_some_iff.mp hq
      refine jw_getR (o := (some x0)) dX3_slot_20 ev8 fl_X3_11 rfl ?_
      refine jw_iload_n dX3_slot_23 rfl ?_
      obtain ⟨v9, ev9, hq⟩ := Option.bind_eq_some_iff.mp hq
      refine jw_aald (t := 39) (Nat.le_of_ble_eq_true rfl) (o := v8) dX3_slot_24 ev9 ?_
      refine jw_goto (tgt := 29) dX3_slot_25 (by decide) ?_
      refine jw_forget [false, false, false] (L' := [none, none, none]) rfl ?_
      exact l_X3_slot_b29  hq

theorem c_X3_slot {h : jw_H} {x0 : Nat} {x1 : Int32} {r : Option Nat} {h' : jw_H} (hq : f_X3_slot h x0 x1 = some (r, h')) : jw_Con (Cond.code yX3_slot cX3_slot 3 (some (.object "Lineorders$Text"))) yX3_slot 2 [.ref x0, .int x1] h (.inl (some (va_rf r))) h' :=
  jw_con false (plainFor_of_name (by decide +kernel)) (fun z => nomatch z) (by simp [jw_ent, jw_sl0_nil, jw_sl0_int, jw_sl0_long, jw_sl0_ref, jw_sl0_rf, jw_sl0_scr, List.replicate]) (by simp [jw_sl0_nil, jw_sl0_int, jw_sl0_long, jw_sl0_ref, jw_sl0_rf, jw_sl0_scr]) (l_X3_slot hq)


/-! X7_copy -/
noncomputable def f_X7_copy (h : jw_H) (x0 : Nat) (x1 : Option Nat) : Option (Unit × jw_H) :=
 (jw_gI h 7 x1 2).bind fun v1 =>
 (jw_gR h 7 (some x0) 0).bind fun v2 =>
 (jw_ln h v2).bind fun v3 =>
 (jw_gR h 7 x1 0).bind fun v4 =>
 (jw_ln h v4).bind fun v5 =>
 jw_b2 (f_J9_min_7cf53 h v3 v5) fun w7 h6 =>
 jw_b2 (f_J9_min_7cf53 h6 v1 w7) fun w9 h8 =>
 if 0 ≤ w9 then ((jw_gR h8 7 x1 0).bind fun v11 =>
 (jw_gR h8 7 (some x0) 0).bind fun v12 =>
 (jw_cp h8 20 v11 (0 : Int32) v12 (0 : Int32) w9).bind fun h13 =>
 (jw_gR h13 7 x1 1).bind fun v14 =>
 (jw_gR h13 7 (some x0) 1).bind fun v15 =>
 (jw_cp h13 21 v14 (0 : Int32) v15 (0 : Int32) (w9 * (30 : Int32))).bind fun h16 =>
 (jw_pI h16 7 (some x0) 2 w9).bind fun h17 =>
 some ((), h17))
 else (some ((), h8))

set_option maxRecDepth 100000 in
set_option maxHeartbeats 4000000 in
theorem l_X7_copy {hi : jw_H} {h : jw_H} {x0 : Nat} {x1 : Option Nat} {r : Unit} {h' : jw_H} (hq : f_X7_copy  h x0 x1 = some (r, h')) : jw_E 1 uX7_copy hi 0 [some (.ref x0), some (va_rf x1), none] [] h (.inl none) h' := by
  unfold f_X7_copy at hq
  refine jw_aload_n dX7_copy_0 (o := x1) rfl ?_
  obtain ⟨v1, ev1, hq⟩ := Option.bind_eq_some_iff.mp hq
  refine jw_getI (o := x1) dX7_copy_1 ev1 fl_X7_25 rfl ?_
  refine jw_aload_n dX7_copy_4 (o := (some x0)) rfl ?_
  obtain ⟨v2, ev2, hq⟩ := Option.bind_eq_some_iff.mp hq
  refine jw_getR (o := (some x0)) dX7_copy_5 ev2 fl_X7_15 rfl ?_
  obtain ⟨v3, ev3, hq⟩ := Option.bind_eq_some_iff.mp hq
  refine jw_alen (o := v2) dX7_copy_8 ev3 ?_
  refine jw_aload_n dX7_copy_9 (o := x1) rfl ?_
  obtain ⟨v4, ev4, hq⟩ := Option.bind_eq_some_iff.mp hq
  refine jw_getR (o := x1) dX7_copy_10 ev4 fl_X7_15 rfl ?_
  obtain ⟨v5, ev5, hq⟩ := Option.bind_eq_some_iff.mp hq
  refine jw_alen (o := v4) dX7_copy_13 ev5 ?_
  obtain ⟨w7, h6, ew7, hq⟩ := jw_b2_spec hq
  refine jw_callS (As := [.int v3, .int v5]) (S := [.int v1]) (v := some (.int w7)) dX7_copy_14 mt_J9_min_7cf53 st_J9_min_7cf53 lk_X7_29 (c_J9_min_7cf53 ew7) rfl (by decide) (Nat.le_of_ble_eq_true rfl) rfl ?_
  obtain ⟨w9, h8, ew9, hq⟩ := jw_b2_spec hq
  refine jw_callS (As := [.int v1, .int w7]) (S := []) (v := some (.int w9)) dX7_copy_17 mt_J9_min_7cf53 st_J9_min_7cf53 lk_X7_29 (c_J9_min_7cf53 ew9) rfl (by decide) (Nat.le_of_ble_eq_true rfl) rfl ?_
  refine jw_istore_n (L' := [some (.ref x0), some (va_rf x1), some (.int w9)]) dX7_copy_20 (Nat.le_of_ble_eq_true rfl) ((jw_st1_of (j := 1) jw_long_rf).trans rfl) ?_
  refine jw_iload_n dX7_copy_21 rfl ?_
  rcases jw_if hq with ⟨c10, hq⟩ | ⟨c10, hq⟩
  · refine jw_if_ge_t (tgt := 26) dX7_copy_22 (by decide) c10 ?_
    refine jw_aload_n dX7_copy_26 (o := x1) rfl ?_
    obtain ⟨v11, ev11, hq⟩ := Option.bind_eq_some_iff.mp hq
    refine jw_getR (o := x1) dX7_copy_27 ev11 fl_X7_15 rfl ?_
    refine jw_iconst dX7_copy_30 (v := (0 : Int32)) (by decide) ?_
    refine jw_aload_n dX7_copy_31 (o := (some x0)) rfl ?_
    obtain ⟨v12, ev12, hq⟩ := Option.bind_eq_some_iff.mp hq
    refine jw_getR (o := (some x0)) dX7_copy_32 ev12 fl_X7_15 rfl ?_
    refine jw_iconst dX7_copy_35 (v := (0 : Int32)) (by decide) ?_
    refine jw_iload_n dX7_copy_36 rfl ?_
    obtain ⟨h13, eh13, hq⟩ := Option.bind_eq_some_iff.mp hq
    refine jw_acp (o1 := v11) (o2 := v12) (t := 20) dX7_copy_37 (by decide) al_X7_32 an_0 as_0 ai_0 (by decide) (Nat.le_of_ble_eq_true rfl) eh13 ?_
    refine jw_aload_n dX7_copy_40 (o := x1) rfl ?_
    obtain ⟨v14, ev14, hq⟩ := Option.bind_eq_some_iff.mp hq
    refine jw_getR (o := x1) dX7_copy_41 ev14 fl_X7_21 rfl ?_
    refine jw_iconst dX7_copy_44 (v := (0 : Int32)) (by decide) ?_
    refine jw_aload_n dX7_copy_45 (o := (some x0)) rfl ?_
    obtain ⟨v15, ev15, hq⟩ := Option.bind_eq_some_iff.mp hq
    refine jw_getR (o := (some x0)) dX7_copy_46 ev15 fl_X7_21 rfl ?_
    refine jw_iconst dX7_copy_49 (v := (0 : Int32)) (by decide) ?_
    refine jw_iload_n dX7_copy_50 rfl ?_
    refine jw_bipush dX7_copy_51 (v := (30 : Int32)) (by decide) ?_
    refine jw_imul dX7_copy_53 ?_
    obtain ⟨h16, eh16, hq⟩ := Option.bind_eq_some_iff.mp hq
    refine jw_acp (o1 := v14) (o2 := v15) (t := 21) dX7_copy_54 (by decide) al_X7_32 an_0 as_0 ai_0 (by decide) (Nat.le_of_ble_eq_true rfl) eh16 ?_
    refine jw_aload_n dX7_copy_57 (o := (some x0)) rfl ?_
    refine jw_iload_n dX7_copy_58 rfl ?_
    obtain ⟨h17, eh17, hq⟩ := Option.bind_eq_some_iff.mp hq
    refine jw_putI (o := (some x0)) dX7_copy_59 eh17 fl_X7_25 rfl rfl ?_
    cases hq
    exact jw_vret dX7_copy_62 rfl
  · refine jw_if_ge_f (tgt := 26) dX7_copy_22 (by decide) c10 ?_
    cases hq
    exact jw_vret dX7_copy_25 rfl

theorem c_X7_copy {h : jw_H} {x0 : Nat} {x1 : Option Nat} {r : Unit} {h' : jw_H} (hq : f_X7_copy h x0 x1 = some (r, h')) : jw_Con (Cond.code yX7_copy cX7_copy 3 none) yX7_copy 1 [.ref x0, va_rf x1] h (.inl none) h' :=
  jw_con false (plainFor_of_name (by decide +kernel)) (fun z => nomatch z) (by simp [jw_ent, jw_sl0_nil, jw_sl0_int, jw_sl0_long, jw_sl0_ref, jw_sl0_rf, jw_sl0_scr, List.replicate]) (by simp [jw_sl0_nil, jw_sl0_int, jw_sl0_long, jw_sl0_ref, jw_sl0_rf, jw_sl0_scr]) (l_X7_copy hq)


/-! X9_copy -/
noncomputable def f_X9_copy (h : jw_H) (x0 : Nat) (x1 : Option Nat) : Option (Unit × jw_H) :=
 (jw_gR h 9 (some x0) 0).bind fun v1 =>
 (jw_gR h 9 x1 0).bind fun v2 =>
 (jw_rc h 7 v1).bind fun a3 =>
 jw_b2 (f_X7_copy h a3 v2) fun w5 h4 =>
 (jw_gR h4 9 x1 1).bind fun v6 =>
 (jw_gR h4 9 (some x0) 1).bind fun v7 =>
 (jw_cp h4 20 v6 (0 : Int32) v7 (0 : Int32) (40 : Int32)).bind fun h8 =>
 (jw_gR h8 9 x1 2).bind fun v9 =>
 (jw_gR h8 9 (some x0) 2).bind fun v10 =>
 (jw_cp h8 20 v9 (0 : Int32) v10 (0 : Int32) (5 : Int32)).bind fun h11 =>
 (jw_gI h11 9 x1 3).bind fun v12 =>
 (jw_pI h11 9 (some x0) 3 v12).bind fun h13 =>
 some ((), h13)

set_option maxRecDepth 100000 in
set_option maxHeartbeats 4000000 in
theorem l_X9_copy {hi : jw_H} {h : jw_H} {x0 : Nat} {x1 : Option Nat} {r : Unit} {h' : jw_H} (hq : f_X9_copy  h x0 x1 = some (r, h')) : jw_E 2 uX9_copy hi 0 [some (.ref x0), some (va_rf x1)] [] h (.inl none) h' := by
  unfold f_X9_copy at hq
  refine jw_aload_n dX9_copy_0 (o := (some x0)) rfl ?_
  obtain ⟨v1, ev1, hq⟩ := Option.bind_eq_some_iff.mp hq
  refine jw_getR (o := (some x0)) dX9_copy_1 ev1 fl_X9_14 rfl ?_
  refine jw_aload_n dX9_copy_4 (o := x1) rfl ?_
  obtain ⟨v2, ev2, hq⟩ := Option.bind_eq_some_iff.mp hq
  refine jw_getR (o := x1) dX9_copy_5 ev2 fl_X9_14 rfl ?_
  obtain ⟨a3, ea3, hq⟩ := Option.bind_eq_some_iff.mp hq
  obtain ⟨eoa3, eta3⟩ := jw_rc_spec ea3
  obtain ⟨w5, h4, ew5, hq⟩ := jw_b2_spec hq
  refine jw_callV (As := [va_rf v2]) (S := []) (a := a3) (v := none) dX9_copy_8 mt_X7_copy in_X7_copy se_X7_copy lk_X9_27 (c_X7_copy ew5) eta3 (by decide) rfl rfl (by decide) (Nat.le_of_ble_eq_true rfl) (by cases eoa3; rfl) ?_
  refine jw_aload_n dX9_copy_11 (o := x1) rfl ?_
  obtain ⟨v6, ev6, hq⟩ := Option.bind_eq_some_iff.mp hq
  refine jw_getR (o := x1) dX9_copy_12 ev6 fl_X9_20 rfl ?_
  refine jw_iconst dX9_copy_15 (v := (0 : Int32)) (by decide) ?_
  refine jw_aload_n dX9_copy_16 (o := (some x0)) rfl ?_
  obtain ⟨v7, ev7, hq⟩ := Option.bind_eq_some_iff.mp hq
  refine jw_getR (o := (some x0)) dX9_copy_17 ev7 fl_X9_20 rfl ?_
  refine jw_iconst dX9_copy_20 (v := (0 : Int32)) (by decide) ?_
  refine jw_bipush dX9_copy_21 (v := (40 : Int32)) (by decide) ?_
  obtain ⟨h8, eh8, hq⟩ := Option.bind_eq_some_iff.mp hq
  refine jw_acp (o1 := v6) (o2 := v7) (t := 20) dX9_copy_23 (by decide) al_X9_31 an_0 as_0 ai_0 (by decide) (Nat.le_of_ble_eq_true rfl) eh8 ?_
  refine jw_aload_n dX9_copy_26 (o := x1) rfl ?_
  obtain ⟨v9, ev9, hq⟩ := Option.bind_eq_some_iff.mp hq
  refine jw_getR (o := x1) dX9_copy_27 ev9 fl_X9_24 rfl ?_
  refine jw_iconst dX9_copy_30 (v := (0 : Int32)) (by decide) ?_
  refine jw_aload_n dX9_copy_31 (o := (some x0)) rfl ?_
  obtain ⟨v10, ev10, hq⟩ := Option.bind_eq_some_iff.mp hq
  refine jw_getR (o := (some x0)) dX9_copy_32 ev10 fl_X9_24 rfl ?_
  refine jw_iconst dX9_copy_35 (v := (0 : Int32)) (by decide) ?_
  refine jw_iconst dX9_copy_36 (v := (5 : Int32)) (by decide) ?_
  obtain ⟨h11, eh11, hq⟩ := Option.bind_eq_some_iff.mp hq
  refine jw_acp (o1 := v9) (o2 := v10) (t := 20) dX9_copy_37 (by decide) al_X9_31 an_0 as_0 ai_0 (by decide) (Nat.le_of_ble_eq_true rfl) eh11 ?_
  refine jw_aload_n dX9_copy_40 (o := (some x0)) rfl ?_
  refine jw_aload_n dX9_copy_41 (o := x1) rfl ?_
  obtain ⟨v12, ev12, hq⟩ := Option.bind_eq_some_iff.mp hq
  refine jw_getI (o := x1) dX9_copy_42 ev12 fl_X9_37 rfl ?_
  obtain ⟨h13, eh13, hq⟩ := Option.bind_eq_some_iff.mp hq
  refine jw_putI (o := (some x0)) dX9_copy_45 eh13 fl_X9_37 rfl rfl ?_
  cases hq
  exact jw_vret dX9_copy_48 rfl

theorem c_X9_copy {h : jw_H} {x0 : Nat} {x1 : Option Nat} {r : Unit} {h' : jw_H} (hq : f_X9_copy h x0 x1 = some (r, h')) : jw_Con (Cond.code yX9_copy cX9_copy 2 none) yX9_copy 2 [.ref x0, va_rf x1] h (.inl none) h' :=
  jw_con false (plainFor_of_name (by decide +kernel)) (fun z => nomatch z) (by simp [jw_ent, jw_sl0_nil, jw_sl0_int, jw_sl0_long, jw_sl0_ref, jw_sl0_rf, jw_sl0_scr, List.replicate]) (by simp [jw_sl0_nil, jw_sl0_int, jw_sl0_long, jw_sl0_ref, jw_sl0_rf, jw_sl0_scr]) (l_X9_copy hq)


/-! X3_note -/
noncomputable def g_X3_note_b18 (h : jw_H) (x0 : Nat) (x1 : Option Nat) : Option (Unit × jw_H) :=
 (jw_gI h 9 x1 4).bind fun v1 =>
 (jw_pI h 3 (some x0) 4 v1).bind fun h2 =>
 some ((), h2)

noncomputable def f_X3_note (h : jw_H) (x0 : Nat) (x1 : Option Nat) : Option (Unit × jw_H) :=
 (jw_gI h 3 (some x0) 3).bind fun v1 =>
 (jw_rc h 3 (some x0)).bind fun a2 =>
 jw_b2 (f_X3_slot h a2 v1) fun w4 h3 =>
 if w4 = none then (g_X3_note_b18  h3 x0 x1)
 else ((jw_rc h3 9 w4).bind fun a6 =>
 jw_b2 (f_X9_copy h3 a6 x1) fun w8 h7 =>
 g_X3_note_b18  h7 x0 x1)

set_option maxRecDepth 100000 in
set_option maxHeartbeats 4000000 in
theorem l_X3_note_b18 {hi : jw_H} {h : jw_H} {x0 : Nat} {x1 : Option Nat} {r : Unit} {h' : jw_H} (hq : g_X3_note_b18  h x0 x1 = some (r, h')) : jw_E 3 uX3_note hi 18 [some (.ref x0), some (va_rf x1), none] [] h (.inl none) h' := by
  unfold g_X3_note_b18 at hq
  refine jw_aload_n dX3_note_18 (o := (some x0)) rfl ?_
  refine jw_aload_n dX3_note_19 (o := x1) rfl ?_
  obtain ⟨v1, ev1, hq⟩ := Option.bind_eq_some_iff.mp hq
  refine jw_getI (o := x1) dX3_note_20 ev1 fl_X3_47 rfl ?_
  obtain ⟨h2, eh2, hq⟩ := Option.bind_eq_some_iff.mp hq
  refine jw_putI (o := (some x0)) dX3_note_23 eh2 fl_X3_50 rfl rfl ?_
  cases hq
  exact jw_vret dX3_note_26 rfl

set_option maxRecDepth 100000 in
set_option maxHeartbeats 4000000 in
theorem l_X3_note {hi : jw_H} {h : jw_H} {x0 : Nat} {x1 : Option Nat} {r : Unit} {h' : jw_H} (hq : f_X3_note  h x0 x1 = some (r, h')) : jw_E 3 uX3_note hi 0 [some (.ref x0), some (va_rf x1), none] [] h (.inl none) h' := by
  unfold f_X3_note at hq
  refine jw_aload_n dX3_note_0 (o := (some x0)) rfl ?_
  refine jw_aload_n dX3_note_1 (o := (some x0)) rfl ?_
  obtain ⟨v1, ev1, hq⟩ := Option.bind_eq_some_iff.mp hq
  refine jw_getI (o := (some x0)) dX3_note_2 ev1 fl_X3_36 rfl ?_
  obtain ⟨a2, ea2, hq⟩ := Option.bind_eq_some_iff.mp hq
  obtain ⟨eoa2, eta2⟩ := jw_rc_spec ea2
  obtain ⟨w4, h3, ew4, hq⟩ := jw_b2_spec hq
  refine jw_callV (As := [.int v1]) (S := []) (a := a2) (v := some (va_rf w4)) dX3_note_5 mt_X3_slot in_X3_slot se_X3_slot lk_X3_39 (c_X3_slot ew4) eta2 (by decide) rfl rfl (by decide) (Nat.le_of_ble_eq_true rfl) (by cases eoa2; rfl) ?_
  refine jw_astore_n (o := w4) (L' := [some (.ref x0), some (va_rf x1), some (va_rf w4)]) dX3_note_8 (Nat.le_of_ble_eq_true rfl) ((jw_st1_of (j := 1) jw_long_rf).trans rfl) ?_
  refine jw_aload_n dX3_note_9 (o := w4) rfl ?_
  rcases jw_if hq with ⟨c5, hq⟩ | ⟨c5, hq⟩
  · refine jw_ifnull_t (o := w4) (tgt := 18) dX3_note_10 (by decide) c5 ?_
    refine jw_forget [true, true, false] (L' := [some (.ref x0), some (va_rf x1), none]) rfl ?_
    exact l_X3_note_b18  hq
  · refine jw_ifnull_f (o := w4) dX3_note_10 c5 ?_
    refine jw_aload_n dX3_note_13 (o := w4) rfl ?_
    refine jw_aload_n dX3_note_14 (o := x1) rfl ?_
    obtain ⟨a6, ea6, hq⟩ := Option.bind_eq_some_iff.mp hq
    obtain ⟨eoa6, eta6⟩ := jw_rc_spec ea6
    obtain ⟨w8, h7, ew8, hq⟩ := jw_b2_spec hq
    refine jw_callV (As := [va_rf x1]) (S := []) (a := a6) (v := none) dX3_note_15 mt_X9_copy in_X9_copy se_X9_copy lk_X3_43 (c_X9_copy ew8) eta6 (by decide) rfl rfl (by decide) (Nat.le_of_ble_eq_true rfl) (by cases eoa6; rfl) ?_
    refine jw_forget [true, true, false] (L' := [some (.ref x0), some (va_rf x1), none]) rfl ?_
    exact l_X3_note_b18  hq

theorem c_X3_note {h : jw_H} {x0 : Nat} {x1 : Option Nat} {r : Unit} {h' : jw_H} (hq : f_X3_note h x0 x1 = some (r, h')) : jw_Con (Cond.code yX3_note cX3_note 3 none) yX3_note 3 [.ref x0, va_rf x1] h (.inl none) h' :=
  jw_con false (plainFor_of_name (by decide +kernel)) (fun z => nomatch z) (by simp [jw_ent, jw_sl0_nil, jw_sl0_int, jw_sl0_long, jw_sl0_ref, jw_sl0_rf, jw_sl0_scr, List.replicate]) (by simp [jw_sl0_nil, jw_sl0_int, jw_sl0_long, jw_sl0_ref, jw_sl0_rf, jw_sl0_scr]) (l_X3_note hq)


/-! X5_takesAll -/
noncomputable def g_X5_takesAll_b32 (h : jw_H) (t0 : Int32) : Option (Int32 × jw_H) :=
 (jw_rb t0).bind fun v1 =>
 some (t0, h)

noncomputable def g_X5_takesAll_b27 (h : jw_H)  : Option (Int32 × jw_H) :=
 g_X5_takesAll_b32  h (1 : Int32)

noncomputable def f_X5_takesAll (h : jw_H) (x0 : Nat) : Option (Int32 × jw_H) :=
 (jw_gI h 5 (some x0) 3).bind fun v1 =>
 if v1 = (103 : Int32) then (g_X5_takesAll_b27  h )
 else ((jw_gI h 5 (some x0) 3).bind fun v3 =>
 if v3 = (71 : Int32) then (g_X5_takesAll_b27  h )
 else ((jw_gI h 5 (some x0) 3).bind fun v5 =>
 if v5 = (119 : Int32) then (g_X5_takesAll_b27  h )
 else (g_X5_takesAll_b32  h (0 : Int32))))

set_option maxRecDepth 100000 in
set_option maxHeartbeats 4000000 in
theorem l_X5_takesAll_b32 {hi : jw_H} {h : jw_H} {t0 : Int32} {r : Int32} {h' : jw_H} (hq : g_X5_takesAll_b32  h t0 = some (r, h')) : jw_E 0 uX5_takesAll hi 32 [none] [.int t0] h (.inl (some (.int r))) h' := by
  unfold g_X5_takesAll_b32 at hq
  obtain ⟨v1, ev1, hq⟩ := Option.bind_eq_some_iff.mp hq
  cases hq
  exact jw_iret (ty := .boolean) dX5_takesAll_32 rfl (jw_rb_spec ev1)

set_option maxRecDepth 100000 in
set_option maxHeartbeats 4000000 in
theorem l_X5_takesAll_b27 {hi : jw_H} {h : jw_H}  {r : Int32} {h' : jw_H} (hq : g_X5_takesAll_b27  h  = some (r, h')) : jw_E 0 uX5_takesAll hi 27 [none] [] h (.inl (some (.int r))) h' := by
  unfold g_X5_takesAll_b27 at hq
  refine jw_iconst dX5_takesAll_27 (v := (1 : Int32)) (by decide) ?_
  refine jw_goto (tgt := 32) dX5_takesAll_28 (by decide) ?_
  exact l_X5_takesAll_b32  hq

set_option maxRecDepth 100000 in
set_option maxHeartbeats 4000000 in
theorem l_X5_takesAll {hi : jw_H} {h : jw_H} {x0 : Nat} {r : Int32} {h' : jw_H} (hq : f_X5_takesAll  h x0 = some (r, h')) : jw_E 0 uX5_takesAll hi 0 [some (.ref x0)] [] h (.inl (some (.int r))) h' := by
  unfold f_X5_takesAll at hq
  refine jw_aload_n dX5_takesAll_0 (o := (some x0)) rfl ?_
  obtain ⟨v1, ev1, hq⟩ := Option.bind_eq_some_iff.mp hq
  refine jw_getI (o := (some x0)) dX5_takesAll_1 ev1 fl_X5_27 rfl ?_
  refine jw_bipush dX5_takesAll_4 (v := (103 : Int32)) (by decide) ?_
  rcases jw_if hq with ⟨c2, hq⟩ | ⟨c2, hq⟩
  · refine jw_icmp_eq_t (tgt := 27) dX5_takesAll_6 (by decide) c2 ?_
    refine jw_forget [false] (L' := [none]) rfl ?_
    exact l_X5_takesAll_b27  hq
  · refine jw_icmp_eq_f (tgt := 27) dX5_takesAll_6 (by decide) c2 ?_
    refine jw_aload_n dX5_takesAll_9 (o := (some x0)) rfl ?_
    obtain ⟨v3, ev3, hq⟩ := Option.bind_eq_some_iff.mp hq
    refine jw_getI (o := (some x0)) dX5_takesAll_10 ev3 fl_X5_27 rfl ?_
    refine jw_bipush dX5_takesAll_13 (v := (71 : Int32)) (by decide) ?_
    rcases jw_if hq with ⟨c4, hq⟩ | ⟨c4, hq⟩
    · refine jw_icmp_eq_t (tgt := 27) dX5_takesAll_15 (by decide) c4 ?_
      refine jw_forget [false] (L' := [none]) rfl ?_
      exact l_X5_takesAll_b27  hq
    · refine jw_icmp_eq_f (tgt := 27) dX5_takesAll_15 (by decide) c4 ?_
      refine jw_aload_n dX5_takesAll_18 (o := (some x0)) rfl ?_
      obtain ⟨v5, ev5, hq⟩ := Option.bind_eq_some_iff.mp hq
      refine jw_getI (o := (some x0)) dX5_takesAll_19 ev5 fl_X5_27 rfl ?_
      refine jw_bipush dX5_takesAll_22 (v := (119 : Int32)) (by decide) ?_
      rcases jw_if hq with ⟨c6, hq⟩ | ⟨c6, hq⟩
      · refine jw_icmp_ne_f (tgt := 31) dX5_takesAll_24 (by decide) c6 ?_
        refine jw_forget [false] (L' := [none]) rfl ?_
        exact l_X5_takesAll_b27  hq
      · refine jw_icmp_ne_t (tgt := 31) dX5_takesAll_24 (by decide) c6 ?_
        refine jw_iconst dX5_takesAll_31 (v := (0 : Int32)) (by decide) ?_
        refine jw_forget [false] (L' := [none]) rfl ?_
        exact l_X5_takesAll_b32  hq

theorem c_X5_takesAll {h : jw_H} {x0 : Nat} {r : Int32} {h' : jw_H} (hq : f_X5_takesAll h x0 = some (r, h')) : jw_Con (Cond.code yX5_takesAll cX5_takesAll 1 (some .boolean)) yX5_takesAll 0 [.ref x0] h (.inl (some (.int r))) h' :=
  jw_con false (plainFor_of_name (by decide +kernel)) (fun z => nomatch z) (by simp [jw_ent, jw_sl0_nil, jw_sl0_int, jw_sl0_long, jw_sl0_ref, jw_sl0_rf, jw_sl0_scr, List.replicate]) (by simp [jw_sl0_nil, jw_sl0_int, jw_sl0_long, jw_sl0_ref, jw_sl0_rf, jw_sl0_scr]) (l_X5_takesAll hq)


/-! X4_load -/
noncomputable def g_X4_load_b19 (k19 : jw_H → Nat → Option Nat → Int32 → Int32 → Int32 → Option (Unit × jw_H)) (h : jw_H) (x0 : Nat) (x1 : Option Nat) (x2 : Int32) (x3 : Int32) (x4 : Int32) : Option (Unit × jw_H) :=
 if x3 ≤ x4 then (some ((), h))
 else ((jw_gR h 4 (some x0) 1).bind fun v2 =>
 (jw_ln h v2).bind fun v3 =>
 if v3 ≤ x4 then (some ((), h))
 else ((jw_gR h 4 (some x0) 2).bind fun v5 =>
 (jw_ln h v5).bind fun v6 =>
 if v6 ≤ x4 then (some ((), h))
 else ((jw_rc h 7 x1).bind fun a8 =>
 jw_b2 (f_X7_signAt h a8 x2 x4) fun w10 h9 =>
 (jw_gR h9 4 (some x0) 1).bind fun v11 =>
 (jw_si h9 21 v11 x4 (vp_nar .byte w10.toInt8.toInt32)).bind fun h12 =>
 (jw_gR h12 4 (some x0) 2).bind fun v13 =>
 jw_b2 (f_X11_bitOf h12 w10) fun w15 h14 =>
 (jw_sl h14 v13 x4 w15).bind fun h16 =>
 (jw_pI h16 4 (some x0) 5 (x4 + (1 : Int32))).bind fun h17 =>
 k19 h17 x0 x1 x2 x3 (x4 + (1 : Int32)))))

noncomputable def f_X4_load_b19 (n : Nat) : jw_H → Nat → Option Nat → Int32 → Int32 → Int32 → Option (Unit × jw_H) :=
 Nat.rec (fun _ _ _ _ _ _ => none) (fun _ k19 => g_X4_load_b19 k19) n

noncomputable def f_X4_load (h : jw_H) (x0 : Nat) (x1 : Option Nat) (x2 : Int32) : Option (Unit × jw_H) :=
 (jw_pI h 4 (some x0) 5 (0 : Int32)).bind fun h1 =>
 (jw_rc h1 7 x1).bind fun a2 =>
 jw_b2 (f_X7_lengthOf h1 a2 x2) fun w4 h3 =>
 jw_b2 (f_J9_min_7cf53 h3 w4 (30 : Int32)) fun w6 h5 =>
 f_X4_load_b19  jw_FU h5 x0 x1 x2 w6 (0 : Int32)

set_option maxRecDepth 100000 in
set_option maxHeartbeats 4000000 in
theorem l_X4_load_b19g {hi : jw_H} {k19 : jw_H → Nat → Option Nat → Int32 → Int32 → Int32 → Option (Unit × jw_H)} (hk19 : ∀ (h : jw_H) (x0 : Nat) (x1 : Option Nat) (x2 : Int32) (x3 : Int32) (x4 : Int32) (r : Unit) (h' : jw_H), k19 h x0 x1 x2 x3 x4 = some (r, h') → jw_E 1 uX4_load hi 19 [some (.ref x0), some (va_rf x1), some (.int x2), some (.int x3), some (.int x4), none] [] h (.inl none) h') {h : jw_H} {x0 : Nat} {x1 : Option Nat} {x2 : Int32} {x3 : Int32} {x4 : Int32} {r : Unit} {h' : jw_H} (hq : g_X4_load_b19 k19 h x0 x1 x2 x3 x4 = some (r, h')) : jw_E 1 uX4_load hi 19 [some (.ref x0), some (va_rf x1), some (.int x2), some (.int x3), some (.int x4), none] [] h (.inl none) h' := by
  unfold g_X4_load_b19 at hq
  refine jw_iload dX4_load_19 rfl ?_
  refine jw_iload_n dX4_load_21 rfl ?_
  rcases jw_if hq with ⟨c1, hq⟩ | ⟨c1, hq⟩
  · refine jw_icmp_ge_t (tgt := 90) dX4_load_22 (by decide) c1 ?_
    cases hq
    exact jw_vret dX4_load_90 rfl
  · refine jw_icmp_ge_f (tgt := 90) dX4_load_22 (by decide) c1 ?_
    refine jw_iload dX4_load_25 rfl ?_
    refine jw_aload_n dX4_load_27 (o := (some x0)) rfl ?_
    obtain ⟨v2, ev2, hq⟩ := Option.bind_eq_some_iff.mp hq
    refine jw_getR (o := (some x0)) dX4_load_28 ev2 fl_X4_15 rfl ?_
    obtain ⟨v3, ev3, hq⟩ := Option.bind_eq_some_iff.mp hq
    refine jw_alen (o := v2) dX4_load_31 ev3 ?_
    rcases jw_if hq with ⟨c4, hq⟩ | ⟨c4, hq⟩
    · refine jw_icmp_ge_t (tgt := 90) dX4_load_32 (by decide) c4 ?_
      cases hq
      exact jw_vret dX4_load_90 rfl
    · refine jw_icmp_ge_f (tgt := 90) dX4_load_32 (by decide) c4 ?_
      refine jw_iload dX4_load_35 rfl ?_
      refine jw_aload_n dX4_load_37 (o := (some x0)) rfl ?_
      obtain ⟨v5, ev5, hq⟩ := Option.bind_eq_some_iff.mp hq
      refine jw_getR (o := (some x0)) dX4_load_38 ev5 fl_X4_19 rfl ?_
      obtain ⟨v6, ev6, hq⟩ := Option.bind_eq_some_iff.mp hq
      refine jw_alen (o := v5) dX4_load_41 ev6 ?_
      rcases jw_if hq with ⟨c7, hq⟩ | ⟨c7, hq⟩
      · refine jw_icmp_ge_t (tgt := 90) dX4_load_42 (by decide) c7 ?_
        cases hq
        exact jw_vret dX4_load_90 rfl
      · refine jw_icmp_ge_f (tgt := 90) dX4_load_42 (by decide) c7 ?_
        refine jw_aload_n dX4_load_45 (o := x1) rfl ?_
        refine jw_iload_n dX4_load_46 rfl ?_
        refine jw_iload dX4_load_47 rfl ?_
        obtain ⟨a8, ea8, hq⟩ := Option.bind_eq_some_iff.mp hq
        obtain ⟨eoa8, eta8⟩ := jw_rc_spec ea8
        obtain ⟨w10, h9, ew10, hq⟩ := jw_b2_spec hq
        refine jw_callV (As := [.int x2, .int x4]) (S := []) (a := a8) (v := some (.int w10)) dX4_load_49 mt_X7_signAt in_X7_signAt se_X7_signAt lk_X4_46 (c_X7_signAt ew10) eta8 (by decide) rfl rfl (by decide) (Nat.le_of_ble_eq_true rfl) (by cases eoa8; rfl) ?_
        refine jw_istore (L' := [some (.ref x0), some (va_rf x1), some (.int x2), some (.int x3), some (.int x4), some (.int w10)]) dX4_load_52 (Nat.le_of_ble_eq_true rfl) rfl ?_
        refine jw_aload_n dX4_load_54 (o := (some x0)) rfl ?_
        obtain ⟨v11, ev11, hq⟩ := Option.bind_eq_some_iff.mp hq
        refine jw_getR (o := (some x0)) dX4_load_55 ev11 fl_X4_15 rfl ?_
        refine jw_iload dX4_load_58 rfl ?_
        refine jw_iload dX4_load_60 rfl ?_
        refine jw_i2b dX4_load_62 ?_
        obtain ⟨h12, eh12, hq⟩ := Option.bind_eq_some_iff.mp hq
        refine jw_bast (o := v11) rfl dX4_load_63 eh12 ?_
        refine jw_aload_n dX4_load_64 (o := (some x0)) rfl ?_
        obtain ⟨v13, ev13, hq⟩ := Option.bind_eq_some_iff.mp hq
        refine jw_getR (o := (some x0)) dX4_load_65 ev13 fl_X4_19 rfl ?_
        refine jw_iload dX4_load_68 rfl ?_
        refine jw_iload dX4_load_70 rfl ?_
        obtain ⟨w15, h14, ew15, hq⟩ := jw_b2_spec hq
        refine jw_callS (As := [.int w10]) (S := [.int x4, va_rf v13]) (v := some (.long w15)) dX4_load_72 mt_X11_bitOf st_X11_bitOf lk_X4_49 (c_X11_bitOf ew15) rfl (by decide) (by simp only [List.map_cons, List.map_nil, List.sum_cons, List.sum_nil, jw_cat_rf, jw_cat_i, jw_cat_l, jw_cat_a, jw_cat_s] <;> decide) rfl ?_
        obtain ⟨h16, eh16, hq⟩ := Option.bind_eq_some_iff.mp hq
        refine jw_last (o := v13) dX4_load_75 eh16 ?_
        refine jw_aload_n dX4_load_76 (o := (some x0)) rfl ?_
        refine jw_iload dX4_load_77 rfl ?_
        refine jw_iconst dX4_load_79 (v := (1 : Int32)) (by decide) ?_
        refine jw_iadd dX4_load_80 ?_
        obtain ⟨h17, eh17, hq⟩ := Option.bind_eq_some_iff.mp hq
        refine jw_putI (o := (some x0)) dX4_load_81 eh17 fl_X4_30 rfl rfl ?_
        refine jw_iinc (L' := [some (.ref x0), some (va_rf x1), some (.int x2), some (.int x3), some (.int (x4 + (1 : Int32))), some (.int w10)]) dX4_load_84 rfl (v := (1 : Int32)) (by decide) (Nat.le_of_ble_eq_true rfl) rfl ?_
        refine jw_goto (tgt := 19) dX4_load_87 (by decide) ?_
        refine jw_forget [true, true, true, true, true, false] (L' := [some (.ref x0), some (va_rf x1), some (.int x2), some (.int x3), some (.int (x4 + (1 : Int32))), none]) rfl ?_
        exact hk19 _ _ _ _ _ _ _ _ hq

theorem l_X4_load_b19 {hi : jw_H} : ∀ (n : Nat) (h : jw_H) (x0 : Nat) (x1 : Option Nat) (x2 : Int32) (x3 : Int32) (x4 : Int32) (r : Unit) (h' : jw_H), f_X4_load_b19  n h x0 x1 x2 x3 x4 = some (r, h') → jw_E 1 uX4_load hi 19 [some (.ref x0), some (va_rf x1), some (.int x2), some (.int x3), some (.int x4), none] [] h (.inl none) h' := by
  intro n
  induction n with
  | zero => intro h x0 x1 x2 x3 x4 r h' hq; exact nomatch hq
  | succ n ih => intro h x0 x1 x2 x3 x4 r h' hq; exact l_X4_load_b19g ih hq

set_option maxRecDepth 100000 in
set_option maxHeartbeats 4000000 in
theorem l_X4_load {hi : jw_H} {h : jw_H} {x0 : Nat} {x1 : Option Nat} {x2 : Int32} {r : Unit} {h' : jw_H} (hq : f_X4_load  h x0 x1 x2 = some (r, h')) : jw_E 1 uX4_load hi 0 [some (.ref x0), some (va_rf x1), some (.int x2), none, none, none] [] h (.inl none) h' := by
  unfold f_X4_load at hq
  refine jw_aload_n dX4_load_0 (o := (some x0)) rfl ?_
  refine jw_iconst dX4_load_1 (v := (0 : Int32)) (by decide) ?_
  obtain ⟨h1, eh1, hq⟩ := Option.bind_eq_some_iff.mp hq
  refine jw_putI (o := (some x0)) dX4_load_2 eh1 fl_X4_30 rfl rfl ?_
  refine jw_aload_n dX4_load_5 (o := x1) rfl ?_
  refine jw_iload_n dX4_load_6 rfl ?_
  obtain ⟨a2, ea2, hq⟩ := Option.bind_eq_some_iff.mp hq
  obtain ⟨eoa2, eta2⟩ := jw_rc_spec ea2
  obtain ⟨w4, h3, ew4, hq⟩ := jw_b2_spec hq
  refine jw_callV (As := [.int x2]) (S := []) (a := a2) (v := some (.int w4)) dX4_load_7 mt_X7_lengthOf in_X7_lengthOf se_X7_lengthOf lk_X4_34 (c_X7_lengthOf ew4) eta2 (by decide) rfl rfl (by decide) (Nat.le_of_ble_eq_true rfl) (by cases eoa2; rfl) ?_
  refine jw_bipush dX4_load_10 (v := (30 : Int32)) (by decide) ?_
  obtain ⟨w6, h5, ew6, hq⟩ := jw_b2_spec hq
  refine jw_callS (As := [.int w4, .int (30 : Int32)]) (S := []) (v := some (.int w6)) dX4_load_12 mt_J9_min_7cf53 st_J9_min_7cf53 lk_X4_40 (c_J9_min_7cf53 ew6) rfl (by decide) (Nat.le_of_ble_eq_true rfl) rfl ?_
  refine jw_istore_n (L' := [some (.ref x0), some (va_rf x1), some (.int x2), some (.int w6), none, none]) dX4_load_15 (Nat.le_of_ble_eq_true rfl) rfl ?_
  refine jw_iconst dX4_load_16 (v := (0 : Int32)) (by decide) ?_
  refine jw_istore (L' := [some (.ref x0), some (va_rf x1), some (.int x2), some (.int w6), some (.int (0 : Int32)), none]) dX4_load_17 (Nat.le_of_ble_eq_true rfl) rfl ?_
  exact l_X4_load_b19  jw_FU _ _ _ _ _ _ _ _ hq

theorem c_X4_load {h : jw_H} {x0 : Nat} {x1 : Option Nat} {x2 : Int32} {r : Unit} {h' : jw_H} (hq : f_X4_load h x0 x1 x2 = some (r, h')) : jw_Con (Cond.code yX4_load cX4_load 6 none) yX4_load 1 [.ref x0, va_rf x1, .int x2] h (.inl none) h' :=
  jw_con false (plainFor_of_name (by decide +kernel)) (fun z => nomatch z) (by simp [jw_ent, jw_sl0_nil, jw_sl0_int, jw_sl0_long, jw_sl0_ref, jw_sl0_rf, jw_sl0_scr, List.replicate]) (by simp [jw_sl0_nil, jw_sl0_int, jw_sl0_long, jw_sl0_ref, jw_sl0_rf, jw_sl0_scr]) (l_X4_load hq)


/-! X4_fits -/
noncomputable def g_X4_fits_b369 (ks : jw_H → Nat → Int32 → Int32 → Int32 → Option (Int32 × jw_H)) (k77 : jw_H → Nat → Int32 → Int32 → Int32 → Int32 → Option (Int32 × jw_H)) (h : jw_H) (x0 : Nat) (x3 : Int32) (x4 : Int32) (x5 : Int32) (x6 : Int32) : Option (Int32 × jw_H) :=
 k77 h x0 x3 x4 x5 (x6 + (1 : Int32))

noncomputable def g_X4_fits_b210 (ks : jw_H → Nat → Int32 → Int32 → Int32 → Option (Int32 × jw_H)) (k210 : jw_H → Nat → Int32 → Int32 → Int32 → Int32 → Option (Int32 × jw_H)) (h : jw_H) (x0 : Nat) (x3 : Int32) (x4 : Int32) (x6 : Int32) (x10 : Int32) : Option (Int32 × jw_H) :=
 if x10 < x4 then (some ((-1 : Int32), h))
 else ((jw_rc h 4 (some x0)).bind fun a2 =>
 jw_b2 (ks h a2 (x6 + (1 : Int32)) x10 (x3 + (1 : Int32))) fun w4 h3 =>
 if w4 = (-1 : Int32) then (k210 h3 x0 x3 x4 x6 (x10 + (-1 : Int32)))
 else (some (w4, h3)))

noncomputable def f_X4_fits_b210 (ks : jw_H → Nat → Int32 → Int32 → Int32 → Option (Int32 × jw_H)) (n : Nat) : jw_H → Nat → Int32 → Int32 → Int32 → Int32 → Option (Int32 × jw_H) :=
 Nat.rec (fun _ _ _ _ _ _ => none) (fun _ k210 => g_X4_fits_b210 ks k210) n

noncomputable def g_X4_fits_b282 (ks : jw_H → Nat → Int32 → Int32 → Int32 → Option (Int32 × jw_H)) (k77 : jw_H → Nat → Int32 → Int32 → Int32 → Int32 → Option (Int32 × jw_H)) (k282 : jw_H → Nat → Int32 → Int32 → Int32 → Int32 → Int32 → Int32 → Option (Int32 × jw_H)) (h : jw_H) (x0 : Nat) (x3 : Int32) (x4 : Int32) (x5 : Int32) (x6 : Int32) (x9 : Int32) (x10 : Int32) : Option (Int32 × jw_H) :=
 (jw_gR h 4 (some x0) 4).bind fun v1 =>
 (jw_ai h 20 v1 x9).bind fun v2 =>
 if v2 ≤ x10 then (g_X4_fits_b369 ks k77 h x0 x3 x4 x5 x6)
 else ((jw_gI h 4 (some x0) 5).bind fun v4 =>
 if v4 ≤ x4 then (some ((-1 : Int32), h))
 else (if x10 < 0 then (some ((-1 : Int32), h))
 else ((jw_gI h 4 (some x0) 5).bind fun v7 =>
 if v7 ≤ x10 then (some ((-1 : Int32), h))
 else ((jw_gR h 4 (some x0) 1).bind fun v9 =>
 (jw_ai h 21 v9 x10).bind fun v10 =>
 (jw_gR h 4 (some x0) 1).bind fun v11 =>
 (jw_ai h 21 v11 x4).bind fun v12 =>
 if v10 = v12 then (k282 h x0 x3 (x4 + (1 : Int32)) x5 x6 x9 (x10 + (1 : Int32)))
 else (some ((-1 : Int32), h))))))

noncomputable def f_X4_fits_b282 (ks : jw_H → Nat → Int32 → Int32 → Int32 → Option (Int32 × jw_H)) (k77 : jw_H → Nat → Int32 → Int32 → Int32 → Int32 → Option (Int32 × jw_H)) (n : Nat) : jw_H → Nat → Int32 → Int32 → Int32 → Int32 → Int32 → Int32 → Option (Int32 × jw_H) :=
 Nat.rec (fun _ _ _ _ _ _ _ _ => none) (fun _ k282 => g_X4_fits_b282 ks k77 k282) n

noncomputable def g_X4_fits_b119 (ks : jw_H → Nat → Int32 → Int32 → Int32 → Option (Int32 × jw_H)) (k77 : jw_H → Nat → Int32 → Int32 → Int32 → Int32 → Option (Int32 × jw_H)) (h : jw_H) (x0 : Nat) (x3 : Int32) (x4 : Int32) (x5 : Int32) (x6 : Int32) (x7 : Int64) (t0 : Int32) : Option (Int32 × jw_H) :=
 (jw_gR h 4 (some x0) 0).bind fun v1 =>
 (jw_gR h 6 v1 1).bind fun v2 =>
 (jw_ai h 20 v2 x6).bind fun v3 =>
 if v3 = (0 : Int32) then ((jw_gI h 4 (some x0) 5).bind fun v5 =>
 if v5 ≤ x4 then (some ((-1 : Int32), h))
 else ((jw_gR h 4 (some x0) 2).bind fun v7 =>
 (jw_al h v7 x4).bind fun v8 =>
 if (lg_cmp (v8 &&& x7) (0 : Int64)) = 0 then (some ((-1 : Int32), h))
 else (g_X4_fits_b369 ks k77 h x0 x3 (x4 + (1 : Int32)) x5 x6)))
 else (if v3 = (1 : Int32) then ((jw_gI h 4 (some x0) 5).bind fun v11 =>
 f_X4_fits_b210 ks jw_FU h x0 x3 x4 x6 v11)
 else (if v3 = (2 : Int32) then ((jw_gR h 4 (some x0) 3).bind fun v13 =>
 (jw_si h 20 v13 t0 x4).bind fun h14 =>
 g_X4_fits_b369 ks k77 h14 x0 x3 x4 x5 x6)
 else (if v3 = (3 : Int32) then ((jw_gR h 4 (some x0) 4).bind fun v16 =>
 (jw_si h 20 v16 t0 x4).bind fun h17 =>
 g_X4_fits_b369 ks k77 h17 x0 x3 x4 x5 x6)
 else (if v3 = (4 : Int32) then ((jw_gR h 4 (some x0) 3).bind fun v19 =>
 (jw_ai h 20 v19 t0).bind fun v20 =>
 f_X4_fits_b282 ks k77 jw_FU h x0 x3 x4 x5 x6 t0 v20)
 else (if v3 = (5 : Int32) then (if x4 = 0 then (g_X4_fits_b369 ks k77 h x0 x3 x4 x5 x6)
 else (some ((-1 : Int32), h)))
 else (if v3 = (6 : Int32) then ((jw_gI h 4 (some x0) 5).bind fun v24 =>
 if x4 = v24 then (g_X4_fits_b369 ks k77 h x0 x3 x4 x5 x6)
 else (some ((-1 : Int32), h)))
 else (some (x4, h))))))))

noncomputable def g_X4_fits_b118 (ks : jw_H → Nat → Int32 → Int32 → Int32 → Option (Int32 × jw_H)) (k77 : jw_H → Nat → Int32 → Int32 → Int32 → Int32 → Option (Int32 × jw_H)) (h : jw_H) (x0 : Nat) (x3 : Int32) (x4 : Int32) (x5 : Int32) (x6 : Int32) (x7 : Int64) : Option (Int32 × jw_H) :=
 g_X4_fits_b119 ks k77 h x0 x3 x4 x5 x6 x7 (0 : Int32)

noncomputable def g_X4_fits_b77 (ks : jw_H → Nat → Int32 → Int32 → Int32 → Option (Int32 × jw_H)) (k77 : jw_H → Nat → Int32 → Int32 → Int32 → Int32 → Option (Int32 × jw_H)) (h : jw_H) (x0 : Nat) (x3 : Int32) (x4 : Int32) (x5 : Int32) (x6 : Int32) : Option (Int32 × jw_H) :=
 if x5 ≤ x6 then (some ((-1 : Int32), h))
 else ((jw_gR h 4 (some x0) 0).bind fun v2 =>
 (jw_gR h 6 v2 2).bind fun v3 =>
 (jw_al h v3 x6).bind fun v4 =>
 if (lg_cmp v4 (1 : Int64)) < 0 then (g_X4_fits_b118 ks k77 h x0 x3 x4 x5 x6 v4)
 else (if 0 < (lg_cmp v4 (2 : Int64)) then (g_X4_fits_b118 ks k77 h x0 x3 x4 x5 x6 v4)
 else (g_X4_fits_b119 ks k77 h x0 x3 x4 x5 x6 v4 v4.toInt32)))

noncomputable def f_X4_fits_b77 (ks : jw_H → Nat → Int32 → Int32 → Int32 → Option (Int32 × jw_H)) (n : Nat) : jw_H → Nat → Int32 → Int32 → Int32 → Int32 → Option (Int32 × jw_H) :=
 Nat.rec (fun _ _ _ _ _ _ => none) (fun _ k77 => g_X4_fits_b77 ks k77) n

noncomputable def g_X4_fits (ks : jw_H → Nat → Int32 → Int32 → Int32 → Option (Int32 × jw_H)) (h : jw_H) (x0 : Nat) (x1 : Int32) (x2 : Int32) (x3 : Int32) : Option (Int32 × jw_H) :=
 if (2 : Int32) < x3 then (some ((-1 : Int32), h))
 else (if x1 < 0 then (some ((-1 : Int32), h))
 else (if x2 < 0 then (some ((-1 : Int32), h))
 else ((jw_gI h 4 (some x0) 5).bind fun v4 =>
 (jw_gR h 4 (some x0) 1).bind fun v5 =>
 (jw_ln h v5).bind fun v6 =>
 if v6 < v4 then (some ((-1 : Int32), h))
 else ((jw_gI h 4 (some x0) 5).bind fun v8 =>
 (jw_gR h 4 (some x0) 2).bind fun v9 =>
 (jw_ln h v9).bind fun v10 =>
 if v8 ≤ v10 then ((jw_gR h 4 (some x0) 0).bind fun v12 =>
 (jw_gI h 6 v12 7).bind fun v13 =>
 (jw_gR h 4 (some x0) 0).bind fun v14 =>
 (jw_gR h 6 v14 1).bind fun v15 =>
 (jw_ln h v15).bind fun v16 =>
 (jw_gR h 4 (some x0) 0).bind fun v17 =>
 (jw_gR h 6 v17 2).bind fun v18 =>
 (jw_ln h v18).bind fun v19 =>
 jw_b2 (f_J9_min_7cf53 h v16 v19) fun w21 h20 =>
 jw_b2 (f_J9_min_7cf53 h20 v13 w21) fun w23 h22 =>
 f_X4_fits_b77 ks jw_FU h22 x0 x3 x2 w23 x1)
 else (some ((-1 : Int32), h))))))

noncomputable def f_X4_fits (n : Nat) : jw_H → Nat → Int32 → Int32 → Int32 → Option (Int32 × jw_H) :=
 Nat.rec (fun _ _ _ _ _ => none) (fun _ ks => g_X4_fits ks) n

set_option maxRecDepth 100000 in
set_option maxHeartbeats 4000000 in
theorem l_X4_fits_b369 {d : Nat} {ks : jw_H → Nat → Int32 → Int32 → Int32 → Option (Int32 × jw_H)} (hks : ∀ {h x0 x1 x2 x3 r h'}, ks h x0 x1 x2 x3 = some (r, h') → jw_Con (Cond.code yX4_fits cX4_fits 12 (some .int)) yX4_fits d [.ref x0, .int x1, .int x2, .int x3] h (.inl (some (.int r))) h') {hi : jw_H} {k77 : jw_H → Nat → Int32 → Int32 → Int32 → Int32 → Option (Int32 × jw_H)} (hk77 : ∀ (h : jw_H) (x0 : Nat) (x3 : Int32) (x4 : Int32) (x5 : Int32) (x6 : Int32) (r : Int32) (h' : jw_H), k77 h x0 x3 x4 x5 x6 = some (r, h') → jw_E (d + 1) uX4_fits hi 77 [some (.ref x0), none, none, some (.int x3), some (.int x4), some (.int x5), some (.int x6), none, none, none, none, none] [] h (.inl (some (.int r))) h') {h : jw_H} {x0 : Nat} {x3 : Int32} {x4 : Int32} {x5 : Int32} {x6 : Int32} {r : Int32} {h' : jw_H} (hq : g_X4_fits_b369 ks k77 h x0 x3 x4 x5 x6 = some (r, h')) : jw_E (d + 1) uX4_fits hi 369 [some (.ref x0), none, none, some (.int x3), some (.int x4), some (.int x5), some (.int x6), none, none, none, none, none] [] h (.inl (some (.int r))) h' := by
  unfold g_X4_fits_b369 at hq
  refine jw_iinc (L' := [some (.ref x0), none, none, some (.int x3), some (.int x4), some (.int x5), some (.int (x6 + (1 : Int32))), none, none, none, none, none]) dX4_fits_369 rfl (v := (1 : Int32)) (by decide) (Nat.le_of_ble_eq_true rfl) rfl ?_
  refine jw_goto (tgt := 77) dX4_fits_372 (by decide) ?_
  exact hk77 _ _ _ _ _ _ _ _ hq

set_option maxRecDepth 100000 in
set_option maxHeartbeats 4000000 in
theorem l_X4_fits_b210g {d : Nat} {ks : jw_H → Nat → Int32 → Int32 → Int32 → Option (Int32 × jw_H)} (hks : ∀ {h x0 x1 x2 x3 r h'}, ks h x0 x1 x2 x3 = some (r, h') → jw_Con (Cond.code yX4_fits cX4_fits 12 (some .int)) yX4_fits d [.ref x0, .int x1, .int x2, .int x3] h (.inl (some (.int r))) h') {hi : jw_H} {k210 : jw_H → Nat → Int32 → Int32 → Int32 → Int32 → Option (Int32 × jw_H)} (hk210 : ∀ (h : jw_H) (x0 : Nat) (x3 : Int32) (x4 : Int32) (x6 : Int32) (x10 : Int32) (r : Int32) (h' : jw_H), k210 h x0 x3 x4 x6 x10 = some (r, h') → jw_E (d + 1) uX4_fits hi 210 [some (.ref x0), none, none, some (.int x3), some (.int x4), none, some (.int x6), none, none, none, some (.int x10), none] [] h (.inl (some (.int r))) h') {h : jw_H} {x0 : Nat} {x3 : Int32} {x4 : Int32} {x6 : Int32} {x10 : Int32} {r : Int32} {h' : jw_H} (hq : g_X4_fits_b210 ks k210 h x0 x3 x4 x6 x10 = some (r, h')) : jw_E (d + 1) uX4_fits hi 210 [some (.ref x0), none, none, some (.int x3), some (.int x4), none, some (.int x6), none, none, none, some (.int x10), none] [] h (.inl (some (.int r))) h' := by
  unfold g_X4_fits_b210 at hq
  refine jw_iload dX4_fits_210 rfl ?_
  refine jw_iload dX4_fits_212 rfl ?_
  rcases jw_if hq with ⟨c1, hq⟩ | ⟨c1, hq⟩
  · refine jw_icmp_lt_t (tgt := 247) dX4_fits_214 (by decide) c1 ?_
    refine jw_iconst dX4_fits_247 (v := (-1 : Int32)) (by decide) ?_
    cases hq
    exact jw_iret (ty := .int) dX4_fits_248 rfl rfl
  · refine jw_icmp_lt_f (tgt := 247) dX4_fits_214 (by decide) c1 ?_
    refine jw_aload_n dX4_fits_217 (o := (some x0)) rfl ?_
    refine jw_iload dX4_fits_218 rfl ?_
    refine jw_iconst dX4_fits_220 (v := (1 : Int32)) (by decide) ?_
    refine jw_iadd dX4_fits_221 ?_
    refine jw_iload dX4_fits_222 rfl ?_
    refine jw_iload_n dX4_fits_224 rfl ?_
    refine jw_iconst dX4_fits_225 (v := (1 : Int32)) (by decide) ?_
    refine jw_iadd dX4_fits_226 ?_
    obtain ⟨a2, ea2, hq⟩ := Option.bind_eq_some_iff.mp hq
    obtain ⟨eoa2, eta2⟩ := jw_rc_spec ea2
    obtain ⟨w4, h3, ew4, hq⟩ := jw_b2_spec hq
    refine jw_callV (As := [.int (x6 + (1 : Int32)), .int x10, .int (x3 + (1 : Int32))]) (S := []) (a := a2) (v := some (.int w4)) dX4_fits_227 mt_X4_fits in_X4_fits se_X4_fits lk_X4_61 (hks ew4) eta2 (by decide) rfl rfl (by omega) (Nat.le_of_ble_eq_true rfl) (by cases eoa2; rfl) ?_
    refine jw_istore (L' := [some (.ref x0), none, none, some (.int x3), some (.int x4), none, some (.int x6), none, none, none, some (.int x10), some (.int w4)]) dX4_fits_230 (Nat.le_of_ble_eq_true rfl) rfl ?_
    refine jw_iload dX4_fits_232 rfl ?_
    refine jw_iconst dX4_fits_234 (v := (-1 : Int32)) (by decide) ?_
    rcases jw_if hq with ⟨c5, hq⟩ | ⟨c5, hq⟩
    · refine jw_icmp_eq_t (tgt := 241) dX4_fits_235 (by decide) c5 ?_
      refine jw_iinc (L' := [some (.ref x0), none, none, some (.int x3), some (.int x4), none, some (.int x6), none, none, none, some (.int (x10 + (-1 : Int32))), some (.int w4)]) dX4_fits_241 rfl (v := (-1 : Int32)) (by decide) (Nat.le_of_ble_eq_true rfl) rfl ?_
      refine jw_goto (tgt := 210) dX4_fits_244 (by decide) ?_
      refine jw_forget [true, true, true, true, true, true, true, true, true, true, true, false] (L' := [some (.ref x0), none, none, some (.int x3), some (.int x4), none, some (.int x6), none, none, none, some (.int (x10 + (-1 : Int32))), none]) rfl ?_
      exact hk210 _ _ _ _ _ _ _ _ hq
    · refine jw_icmp_eq_f (tgt := 241) dX4_fits_235 (by decide) c5 ?_
      refine jw_iload dX4_fits_238 rfl ?_
      cases hq
      exact jw_iret (ty := .int) dX4_fits_240 rfl rfl

theorem l_X4_fits_b210 {d : Nat} {ks : jw_H → Nat → Int32 → Int32 → Int32 → Option (Int32 × jw_H)} (hks : ∀ {h x0 x1 x2 x3 r h'}, ks h x0 x1 x2 x3 = some (r, h') → jw_Con (Cond.code yX4_fits cX4_fits 12 (some .int)) yX4_fits d [.ref x0, .int x1, .int x2, .int x3] h (.inl (some (.int r))) h') {hi : jw_H} : ∀ (n : Nat) (h : jw_H) (x0 : Nat) (x3 : Int32) (x4 : Int32) (x6 : Int32) (x10 : Int32) (r : Int32) (h' : jw_H), f_X4_fits_b210 ks n h x0 x3 x4 x6 x10 = some (r, h') → jw_E (d + 1) uX4_fits hi 210 [some (.ref x0), none, none, some (.int x3), some (.int x4), none, some (.int x6), none, none, none, some (.int x10), none] [] h (.inl (some (.int r))) h' := by
  intro n
  induction n with
  | zero => intro h x0 x3 x4 x6 x10 r h' hq; exact nomatch hq
  | succ n ih => intro h x0 x3 x4 x6 x10 r h' hq; exact l_X4_fits_b210g hks ih hq

set_option maxRecDepth 100000 in
set_option maxHeartbeats 4000000 in
theorem l_X4_fits_b282g {d : Nat} {ks : jw_H → Nat → Int32 → Int32 → Int32 → Option (Int32 × jw_H)} (hks : ∀ {h x0 x1 x2 x3 r h'}, ks h x0 x1 x2 x3 = some (r, h') → jw_Con (Cond.code yX4_fits cX4_fits 12 (some .int)) yX4_fits d [.ref x0, .int x1, .int x2, .int x3] h (.inl (some (.int r))) h') {hi : jw_H} {k77 : jw_H → Nat → Int32 → Int32 → Int32 → Int32 → Option (Int32 × jw_H)} (hk77 : ∀ (h : jw_H) (x0 : Nat) (x3 : Int32) (x4 : Int32) (x5 : Int32) (x6 : Int32) (r : Int32) (h' : jw_H), k77 h x0 x3 x4 x5 x6 = some (r, h') → jw_E (d + 1) uX4_fits hi 77 [some (.ref x0), none, none, some (.int x3), some (.int x4), some (.int x5), some (.int x6), none, none, none, none, none] [] h (.inl (some (.int r))) h') {k282 : jw_H → Nat → Int32 → Int32 → Int32 → Int32 → Int32 → Int32 → Option (Int32 × jw_H)} (hk282 : ∀ (h : jw_H) (x0 : Nat) (x3 : Int32) (x4 : Int32) (x5 : Int32) (x6 : Int32) (x9 : Int32) (x10 : Int32) (r : Int32) (h' : jw_H), k282 h x0 x3 x4 x5 x6 x9 x10 = some (r, h') → jw_E (d + 1) uX4_fits hi 282 [some (.ref x0), none, none, some (.int x3), some (.int x4), some (.int x5), some (.int x6), none, none, some (.int x9), some (.int x10), none] [] h (.inl (some (.int r))) h') {h : jw_H} {x0 : Nat} {x3 : Int32} {x4 : Int32} {x5 : Int32} {x6 : Int32} {x9 : Int32} {x10 : Int32} {r : Int32} {h' : jw_H} (hq : g_X4_fits_b282 ks k77 k282 h x0 x3 x4 x5 x6 x9 x10 = some (r, h')) : jw_E (d + 1) uX4_fits hi 282 [some (.ref x0), none, none, some (.int x3), some (.int x4), some (.int x5), some (.int x6), none, none, some (.int x9), some (.int x10), none] [] h (.inl (some (.int r))) h' := by
  unfold g_X4_fits_b282 at hq
  refine jw_iload dX4_fits_282 rfl ?_
  refine jw_aload_n dX4_fits_284 (o := (some x0)) rfl ?_
  obtain ⟨v1, ev1, hq⟩ := Option.bind_eq_some_iff.mp hq
  refine jw_getR (o := (some x0)) dX4_fits_285 ev1 fl_X4_27 rfl ?_
  refine jw_iload dX4_fits_288 rfl ?_
  obtain ⟨v2, ev2, hq⟩ := Option.bind_eq_some_iff.mp hq
  refine jw_iald (o := v1) dX4_fits_290 ev2 ?_
  rcases jw_if hq with ⟨c3, hq⟩ | ⟨c3, hq⟩
  · refine jw_icmp_ge_t (tgt := 345) dX4_fits_291 (by decide) c3 ?_
    refine jw_goto (tgt := 369) dX4_fits_345 (by decide) ?_
    refine jw_forget [true, true, true, true, true, true, true, true, true, false, false, true] (L' := [some (.ref x0), none, none, some (.int x3), some (.int x4), some (.int x5), some (.int x6), none, none, none, none, none]) rfl ?_
    exact l_X4_fits_b369 hks hk77 hq
  · refine jw_icmp_ge_f (tgt := 345) dX4_fits_291 (by decide) c3 ?_
    refine jw_iload dX4_fits_294 rfl ?_
    refine jw_aload_n dX4_fits_296 (o := (some x0)) rfl ?_
    obtain ⟨v4, ev4, hq⟩ := Option.bind_eq_some_iff.mp hq
    refine jw_getI (o := (some x0)) dX4_fits_297 ev4 fl_X4_30 rfl ?_
    rcases jw_if hq with ⟨c5, hq⟩ | ⟨c5, hq⟩
    · refine jw_icmp_ge_t (tgt := 334) dX4_fits_300 (by decide) c5 ?_
      refine jw_iconst dX4_fits_334 (v := (-1 : Int32)) (by decide) ?_
      cases hq
      exact jw_iret (ty := .int) dX4_fits_335 rfl rfl
    · refine jw_icmp_ge_f (tgt := 334) dX4_fits_300 (by decide) c5 ?_
      refine jw_iload dX4_fits_303 rfl ?_
      rcases jw_if hq with ⟨c6, hq⟩ | ⟨c6, hq⟩
      · refine jw_if_lt_t (tgt := 334) dX4_fits_305 (by decide) c6 ?_
        refine jw_iconst dX4_fits_334 (v := (-1 : Int32)) (by decide) ?_
        cases hq
        exact jw_iret (ty := .int) dX4_fits_335 rfl rfl
      · refine jw_if_lt_f (tgt := 334) dX4_fits_305 (by decide) c6 ?_
        refine jw_iload dX4_fits_308 rfl ?_
        refine jw_aload_n dX4_fits_310 (o := (some x0)) rfl ?_
        obtain ⟨v7, ev7, hq⟩ := Option.bind_eq_some_iff.mp hq
        refine jw_getI (o := (some x0)) dX4_fits_311 ev7 fl_X4_30 rfl ?_
        rcases jw_if hq with ⟨c8, hq⟩ | ⟨c8, hq⟩
        · refine jw_icmp_ge_t (tgt := 334) dX4_fits_314 (by decide) c8 ?_
          refine jw_iconst dX4_fits_334 (v := (-1 : Int32)) (by decide) ?_
          cases hq
          exact jw_iret (ty := .int) dX4_fits_335 rfl rfl
        · refine jw_icmp_ge_f (tgt := 334) dX4_fits_314 (by decide) c8 ?_
          refine jw_aload_n dX4_fits_317 (o := (some x0)) rfl ?_
          obtain ⟨v9, ev9, hq⟩ := Option.bind_eq_some_iff.mp hq
          refine jw_getR (o := (some x0)) dX4_fits_318 ev9 fl_X4_15 rfl ?_
          refine jw_iload dX4_fits_321 rfl ?_
          obtain ⟨v10, ev10, hq⟩ := Option.bind_eq_some_iff.mp hq
          refine jw_bald (o := v9) dX4_fits_323 ev10 ?_
          refine jw_aload_n dX4_fits_324 (o := (some x0)) rfl ?_
          obtain ⟨v11, ev11, hq⟩ := Option.bind_eq_some_iff.mp hq
          refine jw_getR (o := (some x0)) dX4_fits_325 ev11 fl_X4_15 rfl ?_
          refine jw_iload dX4_fits_328 rfl ?_
          obtain ⟨v12, ev12, hq⟩ := Option.bind_eq_some_iff.mp hq
          refine jw_bald (o := v11) dX4_fits_330 ev12 ?_
          rcases jw_if hq with ⟨c13, hq⟩ | ⟨c13, hq⟩
          · refine jw_icmp_eq_t (tgt := 336) dX4_fits_331 (by decide) c13 ?_
            refine jw_iinc (L' := [some (.ref x0), none, none, some (.int x3), some (.int (x4 + (1 : Int32))), some (.int x5), some (.int x6), none, none, some (.int x9), some (.int x10), none]) dX4_fits_336 rfl (v := (1 : Int32)) (by decide) (Nat.le_of_ble_eq_true rfl) rfl ?_
            refine jw_iinc (L' := [some (.ref x0), none, none, some (.int x3), some (.int (x4 + (1 : Int32))), some (.int x5), some (.int x6), none, none, some (.int x9), some (.int (x10 + (1 : Int32))), none]) dX4_fits_339 rfl (v := (1 : Int32)) (by decide) (Nat.le_of_ble_eq_true rfl) rfl ?_
            refine jw_goto (tgt := 282) dX4_fits_342 (by decide) ?_
            exact hk282 _ _ _ _ _ _ _ _ _ _ hq
          · refine jw_icmp_eq_f (tgt := 336) dX4_fits_331 (by decide) c13 ?_
            refine jw_iconst dX4_fits_334 (v := (-1 : Int32)) (by decide) ?_
            cases hq
            exact jw_iret (ty := .int) dX4_fits_335 rfl rfl

theorem l_X4_fits_b282 {d : Nat} {ks : jw_H → Nat → Int32 → Int32 → Int32 → Option (Int32 × jw_H)} (hks : ∀ {h x0 x1 x2 x3 r h'}, ks h x0 x1 x2 x3 = some (r, h') → jw_Con (Cond.code yX4_fits cX4_fits 12 (some .int)) yX4_fits d [.ref x0, .int x1, .int x2, .int x3] h (.inl (some (.int r))) h') {hi : jw_H} {k77 : jw_H → Nat → Int32 → Int32 → Int32 → Int32 → Option (Int32 × jw_H)} (hk77 : ∀ (h : jw_H) (x0 : Nat) (x3 : Int32) (x4 : Int32) (x5 : Int32) (x6 : Int32) (r : Int32) (h' : jw_H), k77 h x0 x3 x4 x5 x6 = some (r, h') → jw_E (d + 1) uX4_fits hi 77 [some (.ref x0), none, none, some (.int x3), some (.int x4), some (.int x5), some (.int x6), none, none, none, none, none] [] h (.inl (some (.int r))) h') : ∀ (n : Nat) (h : jw_H) (x0 : Nat) (x3 : Int32) (x4 : Int32) (x5 : Int32) (x6 : Int32) (x9 : Int32) (x10 : Int32) (r : Int32) (h' : jw_H), f_X4_fits_b282 ks k77 n h x0 x3 x4 x5 x6 x9 x10 = some (r, h') → jw_E (d + 1) uX4_fits hi 282 [some (.ref x0), none, none, some (.int x3), some (.int x4), some (.int x5), some (.int x6), none, none, some (.int x9), some (.int x10), none] [] h (.inl (some (.int r))) h' := by
  intro n
  induction n with
  | zero => intro h x0 x3 x4 x5 x6 x9 x10 r h' hq; exact nomatch hq
  | succ n ih => intro h x0 x3 x4 x5 x6 x9 x10 r h' hq; exact l_X4_fits_b282g hks hk77 ih hq

set_option maxRecDepth 100000 in
set_option maxHeartbeats 4000000 in
theorem l_X4_fits_b119 {d : Nat} {ks : jw_H → Nat → Int32 → Int32 → Int32 → Option (Int32 × jw_H)} (hks : ∀ {h x0 x1 x2 x3 r h'}, ks h x0 x1 x2 x3 = some (r, h') → jw_Con (Cond.code yX4_fits cX4_fits 12 (some .int)) yX4_fits d [.ref x0, .int x1, .int x2, .int x3] h (.inl (some (.int r))) h') {hi : jw_H} {k77 : jw_H → Nat → Int32 → Int32 → Int32 → Int32 → Option (Int32 × jw_H)} (hk77 : ∀ (h : jw_H) (x0 : Nat) (x3 : Int32) (x4 : Int32) (x5 : Int32) (x6 : Int32) (r : Int32) (h' : jw_H), k77 h x0 x3 x4 x5 x6 = some (r, h') → jw_E (d + 1) uX4_fits hi 77 [some (.ref x0), none, none, some (.int x3), some (.int x4), some (.int x5), some (.int x6), none, none, none, none, none] [] h (.inl (some (.int r))) h') {h : jw_H} {x0 : Nat} {x3 : Int32} {x4 : Int32} {x5 : Int32} {x6 : Int32} {x7 : Int64} {t0 : Int32} {r : Int32} {h' : jw_H} (hq : g_X4_fits_b119 ks k77 h x0 x3 x4 x5 x6 x7 t0 = some (r, h')) : jw_E (d + 1) uX4_fits hi 119 [some (.ref x0), none, none, some (.int x3), some (.int x4), some (.int x5), some (.int x6), some (.long x7), none, none, none, none] [.int t0] h (.inl (some (.int r))) h' := by
  unfold g_X4_fits_b119 at hq
  refine jw_istore (L' := [some (.ref x0), none, none, some (.int x3), some (.int x4), some (.int x5), some (.int x6), some (.long x7), none, some (.int t0), none, none]) dX4_fits_119 (Nat.le_of_ble_eq_true rfl) rfl ?_
  refine jw_aload_n dX4_fits_121 (o := (some x0)) rfl ?_
  obtain ⟨v1, ev1, hq⟩ := Option.bind_eq_some_iff.mp hq
  refine jw_getR (o := (some x0)) dX4_fits_122 ev1 fl_X4_9 rfl ?_
  obtain ⟨v2, ev2, hq⟩ := Option.bind_eq_some_iff.mp hq
  refine jw_getR (o := v1) dX4_fits_125 ev2 fl_X4_76 rfl ?_
  refine jw_iload dX4_fits_128 rfl ?_
  obtain ⟨v3, ev3, hq⟩ := Option.bind_eq_some_iff.mp hq
  refine jw_iald (o := v2) dX4_fits_130 ev3 ?_
  rcases jw_if hq with ⟨c4, hq⟩ | ⟨c4, hq⟩
  · refine jw_tableIn (tgt := 172) (off := 41) dX4_fits_131 (by rw [c4]; decide) (by rw [c4]; decide) (by rw [c4]; rfl) (by decide) ?_
    refine jw_iload dX4_fits_172 rfl ?_
    refine jw_aload_n dX4_fits_174 (o := (some x0)) rfl ?_
    obtain ⟨v5, ev5, hq⟩ := Option.bind_eq_some_iff.mp hq
    refine jw_getI (o := (some x0)) dX4_fits_175 ev5 fl_X4_30 rfl ?_
    rcases jw_if hq with ⟨c6, hq⟩ | ⟨c6, hq⟩
    · refine jw_icmp_ge_t (tgt := 196) dX4_fits_178 (by decide) c6 ?_
      refine jw_iconst dX4_fits_196 (v := (-1 : Int32)) (by decide) ?_
      cases hq
      exact jw_iret (ty := .int) dX4_fits_197 rfl rfl
    · refine jw_icmp_ge_f (tgt := 196) dX4_fits_178 (by decide) c6 ?_
      refine jw_aload_n dX4_fits_181 (o := (some x0)) rfl ?_
      obtain ⟨v7, ev7, hq⟩ := Option.bind_eq_some_iff.mp hq
      refine jw_getR (o := (some x0)) dX4_fits_182 ev7 fl_X4_19 rfl ?_
      refine jw_iload dX4_fits_185 rfl ?_
      obtain ⟨v8, ev8, hq⟩ := Option.bind_eq_some_iff.mp hq
      refine jw_lald (o := v7) dX4_fits_187 ev8 ?_
      refine jw_lload dX4_fits_188 rfl ?_
      refine jw_land dX4_fits_190 ?_
      refine jw_lconst dX4_fits_191 (v := (0 : Int64)) (by decide) ?_
      refine jw_lcmp dX4_fits_192 ?_
      rcases jw_if hq with ⟨c9, hq⟩ | ⟨c9, hq⟩
      · refine jw_if_ne_f (tgt := 198) dX4_fits_193 (by decide) c9 ?_
        refine jw_iconst dX4_fits_196 (v := (-1 : Int32)) (by decide) ?_
        cases hq
        exact jw_iret (ty := .int) dX4_fits_197 rfl rfl
      · refine jw_if_ne_t (tgt := 198) dX4_fits_193 (by decide) c9 ?_
        refine jw_iinc (L' := [some (.ref x0), none, none, some (.int x3), some (.int (x4 + (1 : Int32))), some (.int x5), some (.int x6), some (.long x7), none, some (.int t0), none, none]) dX4_fits_198 rfl (v := (1 : Int32)) (by decide) (Nat.le_of_ble_eq_true rfl) rfl ?_
        refine jw_goto (tgt := 369) dX4_fits_201 (by decide) ?_
        refine jw_forget [true, true, true, true, true, true, true, false, true, false, true, true] (L' := [some (.ref x0), none, none, some (.int x3), some (.int (x4 + (1 : Int32))), some (.int x5), some (.int x6), none, none, none, none, none]) rfl ?_
        exact l_X4_fits_b369 hks hk77 hq
  · rcases jw_if hq with ⟨c10, hq⟩ | ⟨c10, hq⟩
    · refine jw_tableIn (tgt := 204) (off := 73) dX4_fits_131 (by rw [c10]; decide) (by rw [c10]; decide) (by rw [c10]; rfl) (by decide) ?_
      refine jw_aload_n dX4_fits_204 (o := (some x0)) rfl ?_
      obtain ⟨v11, ev11, hq⟩ := Option.bind_eq_some_iff.mp hq
      refine jw_getI (o := (some x0)) dX4_fits_205 ev11 fl_X4_30 rfl ?_
      refine jw_istore (L' := [some (.ref x0), none, none, some (.int x3), some (.int x4), some (.int x5), some (.int x6), some (.long x7), none, some (.int t0), some (.int v11), none]) dX4_fits_208 (Nat.le_of_ble_eq_true rfl) rfl ?_
      refine jw_forget [true, true, true, true, true, false, true, false, true, false, true, true] (L' := [some (.ref x0), none, none, some (.int x3), some (.int x4), none, some (.int x6), none, none, none, some (.int v11), none]) rfl ?_
      exact l_X4_fits_b210 hks jw_FU _ _ _ _ _ _ _ _ hq
    · rcases jw_if hq with ⟨c12, hq⟩ | ⟨c12, hq⟩
      · refine jw_tableIn (tgt := 249) (off := 118) dX4_fits_131 (by rw [c12]; decide) (by rw [c12]; decide) (by rw [c12]; rfl) (by decide) ?_
        refine jw_aload_n dX4_fits_249 (o := (some x0)) rfl ?_
        obtain ⟨v13, ev13, hq⟩ := Option.bind_eq_some_iff.mp hq
        refine jw_getR (o := (some x0)) dX4_fits_250 ev13 fl_X4_23 rfl ?_
        refine jw_iload dX4_fits_253 rfl ?_
        refine jw_iload dX4_fits_255 rfl ?_
        obtain ⟨h14, eh14, hq⟩ := Option.bind_eq_some_iff.mp hq
        refine jw_iast (o := v13) dX4_fits_257 eh14 ?_
        refine jw_goto (tgt := 369) dX4_fits_258 (by decide) ?_
        refine jw_forget [true, true, true, true, true, true, true, false, true, false, true, true] (L' := [some (.ref x0), none, none, some (.int x3), some (.int x4), some (.int x5), some (.int x6), none, none, none, none, none]) rfl ?_
        exact l_X4_fits_b369 hks hk77 hq
      · rcases jw_if hq with ⟨c15, hq⟩ | ⟨c15, hq⟩
        · refine jw_tableIn (tgt := 261) (off := 130) dX4_fits_131 (by rw [c15]; decide) (by rw [c15]; decide) (by rw [c15]; rfl) (by decide) ?_
          refine jw_aload_n dX4_fits_261 (o := (some x0)) rfl ?_
          obtain ⟨v16, ev16, hq⟩ := Option.bind_eq_some_iff.mp hq
          refine jw_getR (o := (some x0)) dX4_fits_262 ev16 fl_X4_27 rfl ?_
          refine jw_iload dX4_fits_265 rfl ?_
          refine jw_iload dX4_fits_267 rfl ?_
          obtain ⟨h17, eh17, hq⟩ := Option.bind_eq_some_iff.mp hq
          refine jw_iast (o := v16) dX4_fits_269 eh17 ?_
          refine jw_goto (tgt := 369) dX4_fits_270 (by decide) ?_
          refine jw_forget [true, true, true, true, true, true, true, false, true, false, true, true] (L' := [some (.ref x0), none, none, some (.int x3), some (.int x4), some (.int x5), some (.int x6), none, none, none, none, none]) rfl ?_
          exact l_X4_fits_b369 hks hk77 hq
        · rcases jw_if hq with ⟨c18, hq⟩ | ⟨c18, hq⟩
          · refine jw_tableIn (tgt := 273) (off := 142) dX4_fits_131 (by rw [c18]; decide) (by rw [c18]; decide) (by rw [c18]; rfl) (by decide) ?_
            refine jw_aload_n dX4_fits_273 (o := (some x0)) rfl ?_
            obtain ⟨v19, ev19, hq⟩ := Option.bind_eq_some_iff.mp hq
            refine jw_getR (o := (some x0)) dX4_fits_274 ev19 fl_X4_23 rfl ?_
            refine jw_iload dX4_fits_277 rfl ?_
            obtain ⟨v20, ev20, hq⟩ := Option.bind_eq_some_iff.mp hq
            refine jw_iald (o := v19) dX4_fits_279 ev20 ?_
            refine jw_istore (L' := [some (.ref x0), none, none, some (.int x3), some (.int x4), some (.int x5), some (.int x6), some (.long x7), none, some (.int t0), some (.int v20), none]) dX4_fits_280 (Nat.le_of_ble_eq_true rfl) rfl ?_
            refine jw_forget [true, true, true, true, true, true, true, false, true, true, true, true] (L' := [some (.ref x0), none, none, some (.int x3), some (.int x4), some (.int x5), some (.int x6), none, none, some (.int t0), some (.int v20), none]) rfl ?_
            exact l_X4_fits_b282 hks hk77 jw_FU _ _ _ _ _ _ _ _ _ _ hq
          · rcases jw_if hq with ⟨c21, hq⟩ | ⟨c21, hq⟩
            · refine jw_tableIn (tgt := 348) (off := 217) dX4_fits_131 (by rw [c21]; decide) (by rw [c21]; decide) (by rw [c21]; rfl) (by decide) ?_
              refine jw_iload dX4_fits_348 rfl ?_
              rcases jw_if hq with ⟨c22, hq⟩ | ⟨c22, hq⟩
              · refine jw_if_eq_t (tgt := 369) dX4_fits_350 (by decide) c22 ?_
                refine jw_forget [true, true, true, true, true, true, true, false, true, false, true, true] (L' := [some (.ref x0), none, none, some (.int x3), some (.int x4), some (.int x5), some (.int x6), none, none, none, none, none]) rfl ?_
                exact l_X4_fits_b369 hks hk77 hq
              · refine jw_if_eq_f (tgt := 369) dX4_fits_350 (by decide) c22 ?_
                refine jw_iconst dX4_fits_353 (v := (-1 : Int32)) (by decide) ?_
                cases hq
                exact jw_iret (ty := .int) dX4_fits_354 rfl rfl
            · rcases jw_if hq with ⟨c23, hq⟩ | ⟨c23, hq⟩
              · refine jw_tableIn (tgt := 355) (off := 224) dX4_fits_131 (by rw [c23]; decide) (by rw [c23]; decide) (by rw [c23]; rfl) (by decide) ?_
                refine jw_iload dX4_fits_355 rfl ?_
                refine jw_aload_n dX4_fits_357 (o := (some x0)) rfl ?_
                obtain ⟨v24, ev24, hq⟩ := Option.bind_eq_some_iff.mp hq
                refine jw_getI (o := (some x0)) dX4_fits_358 ev24 fl_X4_30 rfl ?_
                rcases jw_if hq with ⟨c25, hq⟩ | ⟨c25, hq⟩
                · refine jw_icmp_eq_t (tgt := 369) dX4_fits_361 (by decide) c25 ?_
                  refine jw_forget [true, true, true, true, true, true, true, false, true, false, true, true] (L' := [some (.ref x0), none, none, some (.int x3), some (.int x4), some (.int x5), some (.int x6), none, none, none, none, none]) rfl ?_
                  exact l_X4_fits_b369 hks hk77 hq
                · refine jw_icmp_eq_f (tgt := 369) dX4_fits_361 (by decide) c25 ?_
                  refine jw_iconst dX4_fits_364 (v := (-1 : Int32)) (by decide) ?_
                  cases hq
                  exact jw_iret (ty := .int) dX4_fits_365 rfl rfl
              · refine jw_tableOut (tgt := 366) dX4_fits_131 (by have z0 : ¬ (v3).toInt = 0 := lv_neT c4 rfl; have z1 : ¬ (v3).toInt = 1 := lv_neT c10 rfl; have z2 : ¬ (v3).toInt = 2 := lv_neT c12 rfl; have z3 : ¬ (v3).toInt = 3 := lv_neT c15 rfl; have z4 : ¬ (v3).toInt = 4 := lv_neT c18 rfl; have z5 : ¬ (v3).toInt = 5 := lv_neT c21 rfl; have z6 : ¬ (v3).toInt = 6 := lv_neT c23 rfl; omega) (by decide) ?_
                refine jw_iload dX4_fits_366 rfl ?_
                cases hq
                exact jw_iret (ty := .int) dX4_fits_368 rfl rfl

set_option maxRecDepth 100000 in
set_option maxHeartbeats 4000000 in
theorem l_X4_fits_b118 {d : Nat} {ks : jw_H → Nat → Int32 → Int32 → Int32 → Option (Int32 × jw_H)} (hks : ∀ {h x0 x1 x2 x3 r h'}, ks h x0 x1 x2 x3 = some (r, h') → jw_Con (Cond.code yX4_fits cX4_fits 12 (some .int)) yX4_fits d [.ref x0, .int x1, .int x2, .int x3] h (.inl (some (.int r))) h') {hi : jw_H} {k77 : jw_H → Nat → Int32 → Int32 → Int32 → Int32 → Option (Int32 × jw_H)} (hk77 : ∀ (h : jw_H) (x0 : Nat) (x3 : Int32) (x4 : Int32) (x5 : Int32) (x6 : Int32) (r : Int32) (h' : jw_H), k77 h x0 x3 x4 x5 x6 = some (r, h') → jw_E (d + 1) uX4_fits hi 77 [some (.ref x0), none, none, some (.int x3), some (.int x4), some (.int x5), some (.int x6), none, none, none, none, none] [] h (.inl (some (.int r))) h') {h : jw_H} {x0 : Nat} {x3 : Int32} {x4 : Int32} {x5 : Int32} {x6 : Int32} {x7 : Int64} {r : Int32} {h' : jw_H} (hq : g_X4_fits_b118 ks k77 h x0 x3 x4 x5 x6 x7 = some (r, h')) : jw_E (d + 1) uX4_fits hi 118 [some (.ref x0), none, none, some (.int x3), some (.int x4), some (.int x5), some (.int x6), some (.long x7), none, none, none, none] [] h (.inl (some (.int r))) h' := by
  unfold g_X4_fits_b118 at hq
  refine jw_iconst dX4_fits_118 (v := (0 : Int32)) (by decide) ?_
  exact l_X4_fits_b119 hks hk77 hq

set_option maxRecDepth 100000 in
set_option maxHeartbeats 4000000 in
theorem l_X4_fits_b77g {d : Nat} {ks : jw_H → Nat → Int32 → Int32 → Int32 → Option (Int32 × jw_H)} (hks : ∀ {h x0 x1 x2 x3 r h'}, ks h x0 x1 x2 x3 = some (r, h') → jw_Con (Cond.code yX4_fits cX4_fits 12 (some .int)) yX4_fits d [.ref x0, .int x1, .int x2, .int x3] h (.inl (some (.int r))) h') {hi : jw_H} {k77 : jw_H → Nat → Int32 → Int32 → Int32 → Int32 → Option (Int32 × jw_H)} (hk77 : ∀ (h : jw_H) (x0 : Nat) (x3 : Int32) (x4 : Int32) (x5 : Int32) (x6 : Int32) (r : Int32) (h' : jw_H), k77 h x0 x3 x4 x5 x6 = some (r, h') → jw_E (d + 1) uX4_fits hi 77 [some (.ref x0), none, none, some (.int x3), some (.int x4), some (.int x5), some (.int x6), none, none, none, none, none] [] h (.inl (some (.int r))) h') {h : jw_H} {x0 : Nat} {x3 : Int32} {x4 : Int32} {x5 : Int32} {x6 : Int32} {r : Int32} {h' : jw_H} (hq : g_X4_fits_b77 ks k77 h x0 x3 x4 x5 x6 = some (r, h')) : jw_E (d + 1) uX4_fits hi 77 [some (.ref x0), none, none, some (.int x3), some (.int x4), some (.int x5), some (.int x6), none, none, none, none, none] [] h (.inl (some (.int r))) h' := by
  unfold g_X4_fits_b77 at hq
  refine jw_iload dX4_fits_77 rfl ?_
  refine jw_iload dX4_fits_79 rfl ?_
  rcases jw_if hq with ⟨c1, hq⟩ | ⟨c1, hq⟩
  · refine jw_icmp_ge_t (tgt := 375) dX4_fits_81 (by decide) c1 ?_
    refine jw_iconst dX4_fits_375 (v := (-1 : Int32)) (by decide) ?_
    cases hq
    exact jw_iret (ty := .int) dX4_fits_376 rfl rfl
  · refine jw_icmp_ge_f (tgt := 375) dX4_fits_81 (by decide) c1 ?_
    refine jw_aload_n dX4_fits_84 (o := (some x0)) rfl ?_
    obtain ⟨v2, ev2, hq⟩ := Option.bind_eq_some_iff.mp hq
    refine jw_getR (o := (some x0)) dX4_fits_85 ev2 fl_X4_9 rfl ?_
    obtain ⟨v3, ev3, hq⟩ := Option.bind_eq_some_iff.mp hq
    refine jw_getR (o := v2) dX4_fits_88 ev3 fl_X4_79 rfl ?_
    refine jw_iload dX4_fits_91 rfl ?_
    obtain ⟨v4, ev4, hq⟩ := Option.bind_eq_some_iff.mp hq
    refine jw_lald (o := v3) dX4_fits_93 ev4 ?_
    refine jw_lstore (L' := [some (.ref x0), none, none, some (.int x3), some (.int x4), some (.int x5), some (.int x6), some (.long v4), none, none, none, none]) dX4_fits_94 (Nat.le_of_ble_eq_true rfl) rfl ?_
    refine jw_lload dX4_fits_96 rfl ?_
    refine jw_lconst dX4_fits_98 (v := (1 : Int64)) (by decide) ?_
    refine jw_lcmp dX4_fits_99 ?_
    rcases jw_if hq with ⟨c5, hq⟩ | ⟨c5, hq⟩
    · refine jw_if_lt_t (tgt := 118) dX4_fits_100 (by decide) c5 ?_
      exact l_X4_fits_b118 hks hk77 hq
    · refine jw_if_lt_f (tgt := 118) dX4_fits_100 (by decide) c5 ?_
      refine jw_lload dX4_fits_103 rfl ?_
      refine jw_ldc2 dX4_fits_105 cw_X4_82 ?_
      refine jw_lcmp dX4_fits_108 ?_
      rcases jw_if hq with ⟨c6, hq⟩ | ⟨c6, hq⟩
      · refine jw_if_gt_t (tgt := 118) dX4_fits_109 (by decide) c6 ?_
        exact l_X4_fits_b118 hks hk77 hq
      · refine jw_if_gt_f (tgt := 118) dX4_fits_109 (by decide) c6 ?_
        refine jw_lload dX4_fits_112 rfl ?_
        refine jw_l2i dX4_fits_114 ?_
        refine jw_goto (tgt := 119) dX4_fits_115 (by decide) ?_
        exact l_X4_fits_b119 hks hk77 hq

theorem l_X4_fits_b77 {d : Nat} {ks : jw_H → Nat → Int32 → Int32 → Int32 → Option (Int32 × jw_H)} (hks : ∀ {h x0 x1 x2 x3 r h'}, ks h x0 x1 x2 x3 = some (r, h') → jw_Con (Cond.code yX4_fits cX4_fits 12 (some .int)) yX4_fits d [.ref x0, .int x1, .int x2, .int x3] h (.inl (some (.int r))) h') {hi : jw_H} : ∀ (n : Nat) (h : jw_H) (x0 : Nat) (x3 : Int32) (x4 : Int32) (x5 : Int32) (x6 : Int32) (r : Int32) (h' : jw_H), f_X4_fits_b77 ks n h x0 x3 x4 x5 x6 = some (r, h') → jw_E (d + 1) uX4_fits hi 77 [some (.ref x0), none, none, some (.int x3), some (.int x4), some (.int x5), some (.int x6), none, none, none, none, none] [] h (.inl (some (.int r))) h' := by
  intro n
  induction n with
  | zero => intro h x0 x3 x4 x5 x6 r h' hq; exact nomatch hq
  | succ n ih => intro h x0 x3 x4 x5 x6 r h' hq; exact l_X4_fits_b77g hks ih hq

set_option maxRecDepth 100000 in
set_option maxHeartbeats 4000000 in
theorem l_X4_fits {d : Nat} {ks : jw_H → Nat → Int32 → Int32 → Int32 → Option (Int32 × jw_H)} (hks : ∀ {h x0 x1 x2 x3 r h'}, ks h x0 x1 x2 x3 = some (r, h') → jw_Con (Cond.code yX4_fits cX4_fits 12 (some .int)) yX4_fits d [.ref x0, .int x1, .int x2, .int x3] h (.inl (some (.int r))) h') {hi : jw_H} {h : jw_H} {x0 : Nat} {x1 : Int32} {x2 : Int32} {x3 : Int32} {r : Int32} {h' : jw_H} (hq : g_X4_fits ks h x0 x1 x2 x3 = some (r, h')) : jw_E (d + 1) uX4_fits hi 0 [some (.ref x0), some (.int x1), some (.int x2), some (.int x3), none, none, none, none, none, none, none, none] [] h (.inl (some (.int r))) h' := by
  unfold g_X4_fits at hq
  refine jw_iload_n dX4_fits_0 rfl ?_
  refine jw_istore (L' := [some (.ref x0), some (.int x1), some (.int x2), some (.int x3), some (.int x2), none, none, none, none, none, none, none]) dX4_fits_1 (Nat.le_of_ble_eq_true rfl) rfl ?_
  refine jw_iload_n dX4_fits_3 rfl ?_
  refine jw_iconst dX4_fits_4 (v := (2 : Int32)) (by decide) ?_
  rcases jw_if hq with ⟨c1, hq⟩ | ⟨c1, hq⟩
  · refine jw_icmp_gt_t (tgt := 41) dX4_fits_5 (by decide) c1 ?_
    refine jw_iconst dX4_fits_41 (v := (-1 : Int32)) (by decide) ?_
    cases hq
    exact jw_iret (ty := .int) dX4_fits_42 rfl rfl
  · refine jw_icmp_gt_f (tgt := 41) dX4_fits_5 (by decide) c1 ?_
    refine jw_iload_n dX4_fits_8 rfl ?_
    rcases jw_if hq with ⟨c2, hq⟩ | ⟨c2, hq⟩
    · refine jw_if_lt_t (tgt := 41) dX4_fits_9 (by decide) c2 ?_
      refine jw_iconst dX4_fits_41 (v := (-1 : Int32)) (by decide) ?_
      cases hq
      exact jw_iret (ty := .int) dX4_fits_42 rfl rfl
    · refine jw_if_lt_f (tgt := 41) dX4_fits_9 (by decide) c2 ?_
      refine jw_iload dX4_fits_12 rfl ?_
      rcases jw_if hq with ⟨c3, hq⟩ | ⟨c3, hq⟩
      · refine jw_if_lt_t (tgt := 41) dX4_fits_14 (by decide) c3 ?_
        refine jw_iconst dX4_fits_41 (v := (-1 : Int32)) (by decide) ?_
        cases hq
        exact jw_iret (ty := .int) dX4_fits_42 rfl rfl
      · refine jw_if_lt_f (tgt := 41) dX4_fits_14 (by decide) c3 ?_
        refine jw_aload_n dX4_fits_17 (o := (some x0)) rfl ?_
        obtain ⟨v4, ev4, hq⟩ := Option.bind_eq_some_iff.mp hq
        refine jw_getI (o := (some x0)) dX4_fits_18 ev4 fl_X4_30 rfl ?_
        refine jw_aload_n dX4_fits_21 (o := (some x0)) rfl ?_
        obtain ⟨v5, ev5, hq⟩ := Option.bind_eq_some_iff.mp hq
        refine jw_getR (o := (some x0)) dX4_fits_22 ev5 fl_X4_15 rfl ?_
        obtain ⟨v6, ev6, hq⟩ := Option.bind_eq_some_iff.mp hq
        refine jw_alen (o := v5) dX4_fits_25 ev6 ?_
        rcases jw_if hq with ⟨c7, hq⟩ | ⟨c7, hq⟩
        · refine jw_icmp_gt_t (tgt := 41) dX4_fits_26 (by decide) c7 ?_
          refine jw_iconst dX4_fits_41 (v := (-1 : Int32)) (by decide) ?_
          cases hq
          exact jw_iret (ty := .int) dX4_fits_42 rfl rfl
        · refine jw_icmp_gt_f (tgt := 41) dX4_fits_26 (by decide) c7 ?_
          refine jw_aload_n dX4_fits_29 (o := (some x0)) rfl ?_
          obtain ⟨v8, ev8, hq⟩ := Option.bind_eq_some_iff.mp hq
          refine jw_getI (o := (some x0)) dX4_fits_30 ev8 fl_X4_30 rfl ?_
          refine jw_aload_n dX4_fits_33 (o := (some x0)) rfl ?_
          obtain ⟨v9, ev9, hq⟩ := Option.bind_eq_some_iff.mp hq
          refine jw_getR (o := (some x0)) dX4_fits_34 ev9 fl_X4_19 rfl ?_
          obtain ⟨v10, ev10, hq⟩ := Option.bind_eq_some_iff.mp hq
          refine jw_alen (o := v9) dX4_fits_37 ev10 ?_
          rcases jw_if hq with ⟨c11, hq⟩ | ⟨c11, hq⟩
          · refine jw_icmp_le_t (tgt := 43) dX4_fits_38 (by decide) c11 ?_
            refine jw_aload_n dX4_fits_43 (o := (some x0)) rfl ?_
            obtain ⟨v12, ev12, hq⟩ := Option.bind_eq_some_iff.mp hq
            refine jw_getR (o := (some x0)) dX4_fits_44 ev12 fl_X4_9 rfl ?_
            obtain ⟨v13, ev13, hq⟩ := Option.bind_eq_some_iff.mp hq
            refine jw_getI (o := v12) dX4_fits_47 ev13 fl_X4_71 rfl ?_
            refine jw_aload_n dX4_fits_50 (o := (some x0)) rfl ?_
            obtain ⟨v14, ev14, hq⟩ := Option.bind_eq_some_iff.mp hq
            refine jw_getR (o := (some x0)) dX4_fits_51 ev14 fl_X4_9 rfl ?_
            obtain ⟨v15, ev15, hq⟩ := Option.bind_eq_some_iff.mp hq
            refine jw_getR (o := v14) dX4_fits_54 ev15 fl_X4_76 rfl ?_
            obtain ⟨v16, ev16, hq⟩ := Option.bind_eq_some_iff.mp hq
            refine jw_alen (o := v15) dX4_fits_57 ev16 ?_
            refine jw_aload_n dX4_fits_58 (o := (some x0)) rfl ?_
            obtain ⟨v17, ev17, hq⟩ := Option.bind_eq_some_iff.mp hq
            refine jw_getR (o := (some x0)) dX4_fits_59 ev17 fl_X4_9 rfl ?_
            obtain ⟨v18, ev18, hq⟩ := Option.bind_eq_some_iff.mp hq
            refine jw_getR (o := v17) dX4_fits_62 ev18 fl_X4_79 rfl ?_
            obtain ⟨v19, ev19, hq⟩ := Option.bind_eq_some_iff.mp hq
            refine jw_alen (o := v18) dX4_fits_65 ev19 ?_
            obtain ⟨w21, h20, ew21, hq⟩ := jw_b2_spec hq
            refine jw_callS (As := [.int v16, .int v19]) (S := [.int v13]) (v := some (.int w21)) dX4_fits_66 mt_J9_min_7cf53 st_J9_min_7cf53 lk_X4_40 (c_J9_min_7cf53 ew21) rfl (by omega) (Nat.le_of_ble_eq_true rfl) rfl ?_
            obtain ⟨w23, h22, ew23, hq⟩ := jw_b2_spec hq
            refine jw_callS (As := [.int v13, .int w21]) (S := []) (v := some (.int w23)) dX4_fits_69 mt_J9_min_7cf53 st_J9_min_7cf53 lk_X4_40 (c_J9_min_7cf53 ew23) rfl (by omega) (Nat.le_of_ble_eq_true rfl) rfl ?_
            refine jw_istore (L' := [some (.ref x0), some (.int x1), some (.int x2), some (.int x3), some (.int x2), some (.int w23), none, none, none, none, none, none]) dX4_fits_72 (Nat.le_of_ble_eq_true rfl) rfl ?_
            refine jw_iload_n dX4_fits_74 rfl ?_
            refine jw_istore (L' := [some (.ref x0), some (.int x1), some (.int x2), some (.int x3), some (.int x2), some (.int w23), some (.int x1), none, none, none, none, none]) dX4_fits_75 (Nat.le_of_ble_eq_true rfl) rfl ?_
            refine jw_forget [true, false, false, true, true, true, true, true, true, true, true, true] (L' := [some (.ref x0), none, none, some (.int x3), some (.int x2), some (.int w23), some (.int x1), none, none, none, none, none]) rfl ?_
            exact l_X4_fits_b77 hks jw_FU _ _ _ _ _ _ _ _ hq
          · refine jw_icmp_le_f (tgt := 43) dX4_fits_38 (by decide) c11 ?_
            refine jw_iconst dX4_fits_41 (v := (-1 : Int32)) (by decide) ?_
            cases hq
            exact jw_iret (ty := .int) dX4_fits_42 rfl rfl

theorem c_X4_fits_n : ∀ (n : Nat) {h : jw_H} {x0 : Nat} {x1 : Int32} {x2 : Int32} {x3 : Int32} {r : Int32} {h' : jw_H}, f_X4_fits n h x0 x1 x2 x3 = some (r, h') → jw_Con (Cond.code yX4_fits cX4_fits 12 (some .int)) yX4_fits n [.ref x0, .int x1, .int x2, .int x3] h (.inl (some (.int r))) h' := by
  intro n
  induction n with
  | zero => intro h x0 x1 x2 x3 r h' hq; exact nomatch hq
  | succ n ih => intro h x0 x1 x2 x3 r h' hq; exact jw_con false (plainFor_of_name (by decide +kernel)) (fun z => nomatch z) (by simp [jw_ent, jw_sl0_nil, jw_sl0_int, jw_sl0_long, jw_sl0_ref, jw_sl0_rf, jw_sl0_scr, List.replicate]) (by simp [jw_sl0_nil, jw_sl0_int, jw_sl0_long, jw_sl0_ref, jw_sl0_rf, jw_sl0_scr]) (l_X4_fits (hks := fun q => ih q) hq)
theorem c_X4_fits {h : jw_H} {x0 : Nat} {x1 : Int32} {x2 : Int32} {x3 : Int32} {r : Int32} {h' : jw_H} (hq : f_X4_fits 6 h x0 x1 x2 x3 = some (r, h')) : jw_Con (Cond.code yX4_fits cX4_fits 12 (some .int)) yX4_fits 6 [.ref x0, .int x1, .int x2, .int x3] h (.inl (some (.int r))) h' := c_X4_fits_n 6 hq


/-! X4_search -/
noncomputable def g_X4_search_b44 (h : jw_H) (x0 : Nat) (x4 : Int32) (x5 : Int32) : Option (Int32 × jw_H) :=
 (jw_pI h 4 (some x0) 6 x4).bind fun h1 =>
 (jw_pI h1 4 (some x0) 7 x5).bind fun h2 =>
 some ((1 : Int32), h2)

noncomputable def g_X4_search_b58 (k3 : jw_H → Nat → Int32 → Int32 → Int32 → Int32 → Option (Int32 × jw_H)) (h : jw_H) (x0 : Nat) (x1 : Int32) (x2 : Int32) (x3 : Int32) (x4 : Int32) : Option (Int32 × jw_H) :=
 k3 h x0 x1 x2 x3 (x4 + (1 : Int32))

noncomputable def g_X4_search_b3 (k3 : jw_H → Nat → Int32 → Int32 → Int32 → Int32 → Option (Int32 × jw_H)) (h : jw_H) (x0 : Nat) (x1 : Int32) (x2 : Int32) (x3 : Int32) (x4 : Int32) : Option (Int32 × jw_H) :=
 (jw_gI h 4 (some x0) 5).bind fun v1 =>
 if v1 < x4 then (some ((0 : Int32), h))
 else ((jw_rc h 4 (some x0)).bind fun a3 =>
 jw_b2 (f_X4_fits 6 h a3 x1 x4 (0 : Int32)) fun w5 h4 =>
 if w5 = (-1 : Int32) then (g_X4_search_b58 k3 h4 x0 x1 x2 x3 x4)
 else (if x3 = 0 then (g_X4_search_b44  h4 x0 x4 w5)
 else (if x4 = x2 then (if w5 = x2 then (g_X4_search_b58 k3 h4 x0 x1 x2 x3 x4)
 else (g_X4_search_b44  h4 x0 x4 w5))
 else (g_X4_search_b44  h4 x0 x4 w5))))

noncomputable def f_X4_search_b3 (n : Nat) : jw_H → Nat → Int32 → Int32 → Int32 → Int32 → Option (Int32 × jw_H) :=
 Nat.rec (fun _ _ _ _ _ _ => none) (fun _ k3 => g_X4_search_b3 k3) n

noncomputable def f_X4_search (h : jw_H) (x0 : Nat) (x1 : Int32) (x2 : Int32) (x3 : Int32) : Option (Int32 × jw_H) :=
 f_X4_search_b3  jw_FU h x0 x1 x2 x3 x2

set_option maxRecDepth 100000 in
set_option maxHeartbeats 4000000 in
theorem l_X4_search_b44 {hi : jw_H} {h : jw_H} {x0 : Nat} {x4 : Int32} {x5 : Int32} {r : Int32} {h' : jw_H} (hq : g_X4_search_b44  h x0 x4 x5 = some (r, h')) : jw_E 7 uX4_search hi 44 [some (.ref x0), none, none, none, some (.int x4), some (.int x5)] [] h (.inl (some (.int r))) h' := by
  unfold g_X4_search_b44 at hq
  refine jw_aload_n dX4_search_44 (o := (some x0)) rfl ?_
  refine jw_iload dX4_search_45 rfl ?_
  obtain ⟨h1, eh1, hq⟩ := Option.bind_eq_some_iff.mp hq
  refine jw_putI (o := (some x0)) dX4_search_47 eh1 fl_X4_65 rfl rfl ?_
  refine jw_aload_n dX4_search_50 (o := (some x0)) rfl ?_
  refine jw_iload dX4_search_51 rfl ?_
  obtain ⟨h2, eh2, hq⟩ := Option.bind_eq_some_iff.mp hq
  refine jw_putI (o := (some x0)) dX4_search_53 eh2 fl_X4_68 rfl rfl ?_
  refine jw_iconst dX4_search_56 (v := (1 : Int32)) (by decide) ?_
  cases hq
  exact jw_iret (ty := .boolean) dX4_search_57 rfl rfl

set_option maxRecDepth 100000 in
set_option maxHeartbeats 4000000 in
theorem l_X4_search_b58 {hi : jw_H} {k3 : jw_H → Nat → Int32 → Int32 → Int32 → Int32 → Option (Int32 × jw_H)} (hk3 : ∀ (h : jw_H) (x0 : Nat) (x1 : Int32) (x2 : Int32) (x3 : Int32) (x4 : Int32) (r : Int32) (h' : jw_H), k3 h x0 x1 x2 x3 x4 = some (r, h') → jw_E 7 uX4_search hi 3 [some (.ref x0), some (.int x1), some (.int x2), some (.int x3), some (.int x4), none] [] h (.inl (some (.int r))) h') {h : jw_H} {x0 : Nat} {x1 : Int32} {x2 : Int32} {x3 : Int32} {x4 : Int32} {r : Int32} {h' : jw_H} (hq : g_X4_search_b58 k3 h x0 x1 x2 x3 x4 = some (r, h')) : jw_E 7 uX4_search hi 58 [some (.ref x0), some (.int x1), some (.int x2), some (.int x3), some (.int x4), none] [] h (.inl (some (.int r))) h' := by
  unfold g_X4_search_b58 at hq
  refine jw_iinc (L' := [some (.ref x0), some (.int x1), some (.int x2), some (.int x3), some (.int (x4 + (1 : Int32))), none]) dX4_search_58 rfl (v := (1 : Int32)) (by decide) (Nat.le_of_ble_eq_true rfl) rfl ?_
  refine jw_goto (tgt := 3) dX4_search_61 (by decide) ?_
  exact hk3 _ _ _ _ _ _ _ _ hq

set_option maxRecDepth 100000 in
set_option maxHeartbeats 4000000 in
theorem l_X4_search_b3g {hi : jw_H} {k3 : jw_H → Nat → Int32 → Int32 → Int32 → Int32 → Option (Int32 × jw_H)} (hk3 : ∀ (h : jw_H) (x0 : Nat) (x1 : Int32) (x2 : Int32) (x3 : Int32) (x4 : Int32) (r : Int32) (h' : jw_H), k3 h x0 x1 x2 x3 x4 = some (r, h') → jw_E 7 uX4_search hi 3 [some (.ref x0), some (.int x1), some (.int x2), some (.int x3), some (.int x4), none] [] h (.inl (some (.int r))) h') {h : jw_H} {x0 : Nat} {x1 : Int32} {x2 : Int32} {x3 : Int32} {x4 : Int32} {r : Int32} {h' : jw_H} (hq : g_X4_search_b3 k3 h x0 x1 x2 x3 x4 = some (r, h')) : jw_E 7 uX4_search hi 3 [some (.ref x0), some (.int x1), some (.int x2), some (.int x3), some (.int x4), none] [] h (.inl (some (.int r))) h' := by
  unfold g_X4_search_b3 at hq
  refine jw_iload dX4_search_3 rfl ?_
  refine jw_aload_n dX4_search_5 (o := (some x0)) rfl ?_
  obtain ⟨v1, ev1, hq⟩ := Option.bind_eq_some_iff.mp hq
  refine jw_getI (o := (some x0)) dX4_search_6 ev1 fl_X4_30 rfl ?_
  rcases jw_if hq with ⟨c2, hq⟩ | ⟨c2, hq⟩
  · refine jw_icmp_gt_t (tgt := 64) dX4_search_9 (by decide) c2 ?_
    refine jw_iconst dX4_search_64 (v := (0 : Int32)) (by decide) ?_
    cases hq
    exact jw_iret (ty := .boolean) dX4_search_65 rfl rfl
  · refine jw_icmp_gt_f (tgt := 64) dX4_search_9 (by decide) c2 ?_
    refine jw_aload_n dX4_search_12 (o := (some x0)) rfl ?_
    refine jw_iload_n dX4_search_13 rfl ?_
    refine jw_iload dX4_search_14 rfl ?_
    refine jw_iconst dX4_search_16 (v := (0 : Int32)) (by decide) ?_
    obtain ⟨a3, ea3, hq⟩ := Option.bind_eq_some_iff.mp hq
    obtain ⟨eoa3, eta3⟩ := jw_rc_spec ea3
    obtain ⟨w5, h4, ew5, hq⟩ := jw_b2_spec hq
    refine jw_callV (As := [.int x1, .int x4, .int (0 : Int32)]) (S := []) (a := a3) (v := some (.int w5)) dX4_search_17 mt_X4_fits in_X4_fits se_X4_fits lk_X4_61 (c_X4_fits ew5) eta3 (by decide) rfl rfl (by decide) (Nat.le_of_ble_eq_true rfl) (by cases eoa3; rfl) ?_
    refine jw_istore (L' := [some (.ref x0), some (.int x1), some (.int x2), some (.int x3), some (.int x4), some (.int w5)]) dX4_search_20 (Nat.le_of_ble_eq_true rfl) rfl ?_
    refine jw_iload dX4_search_22 rfl ?_
    refine jw_iconst dX4_search_24 (v := (-1 : Int32)) (by decide) ?_
    rcases jw_if hq with ⟨c6, hq⟩ | ⟨c6, hq⟩
    · refine jw_icmp_eq_t (tgt := 58) dX4_search_25 (by decide) c6 ?_
      refine jw_forget [true, true, true, true, true, false] (L' := [some (.ref x0), some (.int x1), some (.int x2), some (.int x3), some (.int x4), none]) rfl ?_
      exact l_X4_search_b58 hk3 hq
    · refine jw_icmp_eq_f (tgt := 58) dX4_search_25 (by decide) c6 ?_
      refine jw_iload_n dX4_search_28 rfl ?_
      rcases jw_if hq with ⟨c7, hq⟩ | ⟨c7, hq⟩
      · refine jw_if_eq_t (tgt := 44) dX4_search_29 (by decide) c7 ?_
        refine jw_forget [true, false, false, false, true, true] (L' := [some (.ref x0), none, none, none, some (.int x4), some (.int w5)]) rfl ?_
        exact l_X4_search_b44  hq
      · refine jw_if_eq_f (tgt := 44) dX4_search_29 (by decide) c7 ?_
        refine jw_iload dX4_search_32 rfl ?_
        refine jw_iload_n dX4_search_34 rfl ?_
        rcases jw_if hq with ⟨c8, hq⟩ | ⟨c8, hq⟩
        · refine jw_icmp_ne_f (tgt := 44) dX4_search_35 (by decide) c8 ?_
          refine jw_iload dX4_search_38 rfl ?_
          refine jw_iload_n dX4_search_40 rfl ?_
          rcases jw_if hq with ⟨c9, hq⟩ | ⟨c9, hq⟩
          · refine jw_icmp_eq_t (tgt := 58) dX4_search_41 (by decide) c9 ?_
            refine jw_forget [true, true, true, true, true, false] (L' := [some (.ref x0), some (.int x1), some (.int x2), some (.int x3), some (.int x4), none]) rfl ?_
            exact l_X4_search_b58 hk3 hq
          · refine jw_icmp_eq_f (tgt := 58) dX4_search_41 (by decide) c9 ?_
            refine jw_forget [true, false, false, false, true, true] (L' := [some (.ref x0), none, none, none, some (.int x4), some (.int w5)]) rfl ?_
            exact l_X4_search_b44  hq
        · refine jw_icmp_ne_t (tgt := 44) dX4_search_35 (by decide) c8 ?_
          refine jw_forget [true, false, false, false, true, true] (L' := [some (.ref x0), none, none, none, some (.int x4), some (.int w5)]) rfl ?_
          exact l_X4_search_b44  hq

theorem l_X4_search_b3 {hi : jw_H} : ∀ (n : Nat) (h : jw_H) (x0 : Nat) (x1 : Int32) (x2 : Int32) (x3 : Int32) (x4 : Int32) (r : Int32) (h' : jw_H), f_X4_search_b3  n h x0 x1 x2 x3 x4 = some (r, h') → jw_E 7 uX4_search hi 3 [some (.ref x0), some (.int x1), some (.int x2), some (.int x3), some (.int x4), none] [] h (.inl (some (.int r))) h' := by
  intro n
  induction n with
  | zero => intro h x0 x1 x2 x3 x4 r h' hq; exact nomatch hq
  | succ n ih => intro h x0 x1 x2 x3 x4 r h' hq; exact l_X4_search_b3g ih hq

set_option maxRecDepth 100000 in
set_option maxHeartbeats 4000000 in
theorem l_X4_search {hi : jw_H} {h : jw_H} {x0 : Nat} {x1 : Int32} {x2 : Int32} {x3 : Int32} {r : Int32} {h' : jw_H} (hq : f_X4_search  h x0 x1 x2 x3 = some (r, h')) : jw_E 7 uX4_search hi 0 [some (.ref x0), some (.int x1), some (.int x2), some (.int x3), none, none] [] h (.inl (some (.int r))) h' := by
  unfold f_X4_search at hq
  refine jw_iload_n dX4_search_0 rfl ?_
  refine jw_istore (L' := [some (.ref x0), some (.int x1), some (.int x2), some (.int x3), some (.int x2), none]) dX4_search_1 (Nat.le_of_ble_eq_true rfl) rfl ?_
  exact l_X4_search_b3  jw_FU _ _ _ _ _ _ _ _ hq

theorem c_X4_search {h : jw_H} {x0 : Nat} {x1 : Int32} {x2 : Int32} {x3 : Int32} {r : Int32} {h' : jw_H} (hq : f_X4_search h x0 x1 x2 x3 = some (r, h')) : jw_Con (Cond.code yX4_search cX4_search 6 (some .boolean)) yX4_search 7 [.ref x0, .int x1, .int x2, .int x3] h (.inl (some (.int r))) h' :=
  jw_con false (plainFor_of_name (by decide +kernel)) (fun z => nomatch z) (by simp [jw_ent, jw_sl0_nil, jw_sl0_int, jw_sl0_long, jw_sl0_ref, jw_sl0_rf, jw_sl0_scr, List.replicate]) (by simp [jw_sl0_nil, jw_sl0_int, jw_sl0_long, jw_sl0_ref, jw_sl0_rf, jw_sl0_scr]) (l_X4_search hq)


/-! X4_lineWith -/
noncomputable def g_X4_lineWith_b67 (k15 : jw_H → Nat → Option Nat → Int32 → Int32 → Int32 → Int32 → Option (Int32 × jw_H)) (h : jw_H) (x0 : Nat) (x1 : Option Nat) (x2 : Int32) (x3 : Int32) (x4 : Int32) (x5 : Int32) : Option (Int32 × jw_H) :=
 (jw_gR h 9 x1 0).bind fun v1 =>
 (jw_rc h 4 (some x0)).bind fun a2 =>
 jw_b2 (f_X4_load h a2 v1 x4) fun w4 h3 =>
 (jw_rc h3 4 (some x0)).bind fun a5 =>
 jw_b2 (f_X4_search h3 a5 x2 (0 : Int32) (0 : Int32)) fun w7 h6 =>
 if w7 = 0 then (k15 h6 x0 x1 x2 x3 x4 (x5 + (-1 : Int32)))
 else (some (x4, h6))

noncomputable def g_X4_lineWith_b31 (k15 : jw_H → Nat → Option Nat → Int32 → Int32 → Int32 → Int32 → Option (Int32 × jw_H)) (h : jw_H) (x0 : Nat) (x1 : Option Nat) (x2 : Int32) (x3 : Int32) (x5 : Int32) (t0 : Int32) (t1 : Int32) : Option (Int32 × jw_H) :=
 (jw_gR h 9 x1 0).bind fun v1 =>
 (jw_gI h 7 v1 2).bind fun v2 =>
 if (t0 + t1) ≤ v2 then (if (1 : Int32) ≤ (t0 + t1) then (g_X4_lineWith_b67 k15 h x0 x1 x2 x3 (t0 + t1) x5)
 else ((jw_gR h 9 x1 0).bind fun v5 =>
 (jw_gI h 7 v5 2).bind fun v6 =>
 g_X4_lineWith_b67 k15 h x0 x1 x2 x3 v6 x5))
 else (g_X4_lineWith_b67 k15 h x0 x1 x2 x3 (1 : Int32) x5)

noncomputable def g_X4_lineWith_b15 (k15 : jw_H → Nat → Option Nat → Int32 → Int32 → Int32 → Int32 → Option (Int32 × jw_H)) (h : jw_H) (x0 : Nat) (x1 : Option Nat) (x2 : Int32) (x3 : Int32) (x4 : Int32) (x5 : Int32) : Option (Int32 × jw_H) :=
 if x5 ≤ 0 then (some ((-1 : Int32), h))
 else (if x3 = 0 then (g_X4_lineWith_b31 k15 h x0 x1 x2 x3 x5 x4 (1 : Int32))
 else (g_X4_lineWith_b31 k15 h x0 x1 x2 x3 x5 x4 (-1 : Int32)))

noncomputable def f_X4_lineWith_b15 (n : Nat) : jw_H → Nat → Option Nat → Int32 → Int32 → Int32 → Int32 → Option (Int32 × jw_H) :=
 Nat.rec (fun _ _ _ _ _ _ _ => none) (fun _ k15 => g_X4_lineWith_b15 k15) n

noncomputable def f_X4_lineWith (h : jw_H) (x0 : Nat) (x1 : Option Nat) (x2 : Int32) (x3 : Int32) : Option (Int32 × jw_H) :=
 (jw_gI h 9 x1 3).bind fun v1 =>
 (jw_gR h 9 x1 0).bind fun v2 =>
 (jw_gI h 7 v2 2).bind fun v3 =>
 f_X4_lineWith_b15  jw_FU h x0 x1 x2 x3 v1 v3

set_option maxRecDepth 100000 in
set_option maxHeartbeats 4000000 in
theorem l_X4_lineWith_b67 {hi : jw_H} {k15 : jw_H → Nat → Option Nat → Int32 → Int32 → Int32 → Int32 → Option (Int32 × jw_H)} (hk15 : ∀ (h : jw_H) (x0 : Nat) (x1 : Option Nat) (x2 : Int32) (x3 : Int32) (x4 : Int32) (x5 : Int32) (r : Int32) (h' : jw_H), k15 h x0 x1 x2 x3 x4 x5 = some (r, h') → jw_E 8 uX4_lineWith hi 15 [some (.ref x0), some (va_rf x1), some (.int x2), some (.int x3), some (.int x4), some (.int x5)] [] h (.inl (some (.int r))) h') {h : jw_H} {x0 : Nat} {x1 : Option Nat} {x2 : Int32} {x3 : Int32} {x4 : Int32} {x5 : Int32} {r : Int32} {h' : jw_H} (hq : g_X4_lineWith_b67 k15 h x0 x1 x2 x3 x4 x5 = some (r, h')) : jw_E 8 uX4_lineWith hi 67 [some (.ref x0), some (va_rf x1), some (.int x2), some (.int x3), some (.int x4), some (.int x5)] [] h (.inl (some (.int r))) h' := by
  unfold g_X4_lineWith_b67 at hq
  refine jw_aload_n dX4_lineWith_67 (o := (some x0)) rfl ?_
  refine jw_aload_n dX4_lineWith_68 (o := x1) rfl ?_
  obtain ⟨v1, ev1, hq⟩ := Option.bind_eq_some_iff.mp hq
  refine jw_getR (o := x1) dX4_lineWith_69 ev1 fl_X4_89 rfl ?_
  refine jw_iload dX4_lineWith_72 rfl ?_
  obtain ⟨a2, ea2, hq⟩ := Option.bind_eq_some_iff.mp hq
  obtain ⟨eoa2, eta2⟩ := jw_rc_spec ea2
  obtain ⟨w4, h3, ew4, hq⟩ := jw_b2_spec hq
  refine jw_callV (As := [va_rf v1, .int x4]) (S := []) (a := a2) (v := none) dX4_lineWith_74 mt_X4_load in_X4_load se_X4_load lk_X4_53 (c_X4_load ew4) eta2 (by decide) rfl rfl (by decide) (Nat.le_of_ble_eq_true rfl) (by cases eoa2; rfl) ?_
  refine jw_aload_n dX4_lineWith_77 (o := (some x0)) rfl ?_
  refine jw_iload_n dX4_lineWith_78 rfl ?_
  refine jw_iconst dX4_lineWith_79 (v := (0 : Int32)) (by decide) ?_
  refine jw_iconst dX4_lineWith_80 (v := (0 : Int32)) (by decide) ?_
  obtain ⟨a5, ea5, hq⟩ := Option.bind_eq_some_iff.mp hq
  obtain ⟨eoa5, eta5⟩ := jw_rc_spec ea5
  obtain ⟨w7, h6, ew7, hq⟩ := jw_b2_spec hq
  refine jw_callV (As := [.int x2, .int (0 : Int32), .int (0 : Int32)]) (S := []) (a := a5) (v := some (.int w7)) dX4_lineWith_81 mt_X4_search in_X4_search se_X4_search lk_X4_57 (c_X4_search ew7) eta5 (by decide) rfl rfl (by decide) (Nat.le_of_ble_eq_true rfl) (by cases eoa5; rfl) ?_
  rcases jw_if hq with ⟨c8, hq⟩ | ⟨c8, hq⟩
  · refine jw_if_eq_t (tgt := 90) dX4_lineWith_84 (by decide) c8 ?_
    refine jw_iinc (L' := [some (.ref x0), some (va_rf x1), some (.int x2), some (.int x3), some (.int x4), some (.int (x5 + (-1 : Int32)))]) dX4_lineWith_90 rfl (v := (-1 : Int32)) (by decide) (Nat.le_of_ble_eq_true rfl) rfl ?_
    refine jw_goto (tgt := 15) dX4_lineWith_93 (by decide) ?_
    exact hk15 _ _ _ _ _ _ _ _ _ hq
  · refine jw_if_eq_f (tgt := 90) dX4_lineWith_84 (by decide) c8 ?_
    refine jw_iload dX4_lineWith_87 rfl ?_
    cases hq
    exact jw_iret (ty := .int) dX4_lineWith_89 rfl rfl

set_option maxRecDepth 100000 in
set_option maxHeartbeats 4000000 in
theorem l_X4_lineWith_b31 {hi : jw_H} {k15 : jw_H → Nat → Option Nat → Int32 → Int32 → Int32 → Int32 → Option (Int32 × jw_H)} (hk15 : ∀ (h : jw_H) (x0 : Nat) (x1 : Option Nat) (x2 : Int32) (x3 : Int32) (x4 : Int32) (x5 : Int32) (r : Int32) (h' : jw_H), k15 h x0 x1 x2 x3 x4 x5 = some (r, h') → jw_E 8 uX4_lineWith hi 15 [some (.ref x0), some (va_rf x1), some (.int x2), some (.int x3), some (.int x4), some (.int x5)] [] h (.inl (some (.int r))) h') {h : jw_H} {x0 : Nat} {x1 : Option Nat} {x2 : Int32} {x3 : Int32} {x5 : Int32} {t0 : Int32} {t1 : Int32} {r : Int32} {h' : jw_H} (hq : g_X4_lineWith_b31 k15 h x0 x1 x2 x3 x5 t0 t1 = some (r, h')) : jw_E 8 uX4_lineWith hi 31 [some (.ref x0), some (va_rf x1), some (.int x2), some (.int x3), none, some (.int x5)] [.int t1, .int t0] h (.inl (some (.int r))) h' := by
  unfold g_X4_lineWith_b31 at hq
  refine jw_iadd dX4_lineWith_31 ?_
  refine jw_istore (L' := [some (.ref x0), some (va_rf x1), some (.int x2), some (.int x3), some (.int (t0 + t1)), some (.int x5)]) dX4_lineWith_32 (Nat.le_of_ble_eq_true rfl) rfl ?_
  refine jw_iload dX4_lineWith_34 rfl ?_
  refine jw_aload_n dX4_lineWith_36 (o := x1) rfl ?_
  obtain ⟨v1, ev1, hq⟩ := Option.bind_eq_some_iff.mp hq
  refine jw_getR (o := x1) dX4_lineWith_37 ev1 fl_X4_89 rfl ?_
  obtain ⟨v2, ev2, hq⟩ := Option.bind_eq_some_iff.mp hq
  refine jw_getI (o := v1) dX4_lineWith_40 ev2 fl_X4_93 rfl ?_
  rcases jw_if hq with ⟨c3, hq⟩ | ⟨c3, hq⟩
  · refine jw_icmp_le_t (tgt := 52) dX4_lineWith_43 (by decide) c3 ?_
    refine jw_iload dX4_lineWith_52 rfl ?_
    refine jw_iconst dX4_lineWith_54 (v := (1 : Int32)) (by decide) ?_
    rcases jw_if hq with ⟨c4, hq⟩ | ⟨c4, hq⟩
    · refine jw_icmp_ge_t (tgt := 67) dX4_lineWith_55 (by decide) c4 ?_
      exact l_X4_lineWith_b67 hk15 hq
    · refine jw_icmp_ge_f (tgt := 67) dX4_lineWith_55 (by decide) c4 ?_
      refine jw_aload_n dX4_lineWith_58 (o := x1) rfl ?_
      obtain ⟨v5, ev5, hq⟩ := Option.bind_eq_some_iff.mp hq
      refine jw_getR (o := x1) dX4_lineWith_59 ev5 fl_X4_89 rfl ?_
      obtain ⟨v6, ev6, hq⟩ := Option.bind_eq_some_iff.mp hq
      refine jw_getI (o := v5) dX4_lineWith_62 ev6 fl_X4_93 rfl ?_
      refine jw_istore (L' := [some (.ref x0), some (va_rf x1), some (.int x2), some (.int x3), some (.int v6), some (.int x5)]) dX4_lineWith_65 (Nat.le_of_ble_eq_true rfl) rfl ?_
      exact l_X4_lineWith_b67 hk15 hq
  · refine jw_icmp_le_f (tgt := 52) dX4_lineWith_43 (by decide) c3 ?_
    refine jw_iconst dX4_lineWith_46 (v := (1 : Int32)) (by decide) ?_
    refine jw_istore (L' := [some (.ref x0), some (va_rf x1), some (.int x2), some (.int x3), some (.int (1 : Int32)), some (.int x5)]) dX4_lineWith_47 (Nat.le_of_ble_eq_true rfl) rfl ?_
    refine jw_goto (tgt := 67) dX4_lineWith_49 (by decide) ?_
    exact l_X4_lineWith_b67 hk15 hq

set_option maxRecDepth 100000 in
set_option maxHeartbeats 4000000 in
theorem l_X4_lineWith_b15g {hi : jw_H} {k15 : jw_H → Nat → Option Nat → Int32 → Int32 → Int32 → Int32 → Option (Int32 × jw_H)} (hk15 : ∀ (h : jw_H) (x0 : Nat) (x1 : Option Nat) (x2 : Int32) (x3 : Int32) (x4 : Int32) (x5 : Int32) (r : Int32) (h' : jw_H), k15 h x0 x1 x2 x3 x4 x5 = some (r, h') → jw_E 8 uX4_lineWith hi 15 [some (.ref x0), some (va_rf x1), some (.int x2), some (.int x3), some (.int x4), some (.int x5)] [] h (.inl (some (.int r))) h') {h : jw_H} {x0 : Nat} {x1 : Option Nat} {x2 : Int32} {x3 : Int32} {x4 : Int32} {x5 : Int32} {r : Int32} {h' : jw_H} (hq : g_X4_lineWith_b15 k15 h x0 x1 x2 x3 x4 x5 = some (r, h')) : jw_E 8 uX4_lineWith hi 15 [some (.ref x0), some (va_rf x1), some (.int x2), some (.int x3), some (.int x4), some (.int x5)] [] h (.inl (some (.int r))) h' := by
  unfold g_X4_lineWith_b15 at hq
  refine jw_iload dX4_lineWith_15 rfl ?_
  rcases jw_if hq with ⟨c1, hq⟩ | ⟨c1, hq⟩
  · refine jw_if_le_t (tgt := 96) dX4_lineWith_17 (by decide) c1 ?_
    refine jw_iconst dX4_lineWith_96 (v := (-1 : Int32)) (by decide) ?_
    cases hq
    exact jw_iret (ty := .int) dX4_lineWith_97 rfl rfl
  · refine jw_if_le_f (tgt := 96) dX4_lineWith_17 (by decide) c1 ?_
    refine jw_iload dX4_lineWith_20 rfl ?_
    refine jw_iload_n dX4_lineWith_22 rfl ?_
    rcases jw_if hq with ⟨c2, hq⟩ | ⟨c2, hq⟩
    · refine jw_if_eq_t (tgt := 30) dX4_lineWith_23 (by decide) c2 ?_
      refine jw_iconst dX4_lineWith_30 (v := (1 : Int32)) (by decide) ?_
      refine jw_forget [true, true, true, true, false, true] (L' := [some (.ref x0), some (va_rf x1), some (.int x2), some (.int x3), none, some (.int x5)]) rfl ?_
      exact l_X4_lineWith_b31 hk15 hq
    · refine jw_if_eq_f (tgt := 30) dX4_lineWith_23 (by decide) c2 ?_
      refine jw_iconst dX4_lineWith_26 (v := (-1 : Int32)) (by decide) ?_
      refine jw_goto (tgt := 31) dX4_lineWith_27 (by decide) ?_
      refine jw_forget [true, true, true, true, false, true] (L' := [some (.ref x0), some (va_rf x1), some (.int x2), some (.int x3), none, some (.int x5)]) rfl ?_
      exact l_X4_lineWith_b31 hk15 hq

theorem l_X4_lineWith_b15 {hi : jw_H} : ∀ (n : Nat) (h : jw_H) (x0 : Nat) (x1 : Option Nat) (x2 : Int32) (x3 : Int32) (x4 : Int32) (x5 : Int32) (r : Int32) (h' : jw_H), f_X4_lineWith_b15  n h x0 x1 x2 x3 x4 x5 = some (r, h') → jw_E 8 uX4_lineWith hi 15 [some (.ref x0), some (va_rf x1), some (.int x2), some (.int x3), some (.int x4), some (.int x5)] [] h (.inl (some (.int r))) h' := by
  intro n
  induction n with
  | zero => intro h x0 x1 x2 x3 x4 x5 r h' hq; exact nomatch hq
  | succ n ih => intro h x0 x1 x2 x3 x4 x5 r h' hq; exact l_X4_lineWith_b15g ih hq

set_option maxRecDepth 100000 in
set_option maxHeartbeats 4000000 in
theorem l_X4_lineWith {hi : jw_H} {h : jw_H} {x0 : Nat} {x1 : Option Nat} {x2 : Int32} {x3 : Int32} {r : Int32} {h' : jw_H} (hq : f_X4_lineWith  h x0 x1 x2 x3 = some (r, h')) : jw_E 8 uX4_lineWith hi 0 [some (.ref x0), some (va_rf x1), some (.int x2), some (.int x3), none, none] [] h (.inl (some (.int r))) h' := by
  unfold f_X4_lineWith at hq
  refine jw_aload_n dX4_lineWith_0 (o := x1) rfl ?_
  obtain ⟨v1, ev1, hq⟩ := Option.bind_eq_some_iff.mp hq
  refine jw_getI (o := x1) dX4_lineWith_1 ev1 fl_X4_84 rfl ?_
  refine jw_istore (L' := [some (.ref x0), some (va_rf x1), some (.int x2), some (.int x3), some (.int v1), none]) dX4_lineWith_4 (Nat.le_of_ble_eq_true rfl) rfl ?_
  refine jw_aload_n dX4_lineWith_6 (o := x1) rfl ?_
  obtain ⟨v2, ev2, hq⟩ := Option.bind_eq_some_iff.mp hq
  refine jw_getR (o := x1) dX4_lineWith_7 ev2 fl_X4_89 rfl ?_
  obtain ⟨v3, ev3, hq⟩ := Option.bind_eq_some_iff.mp hq
  refine jw_getI (o := v2) dX4_lineWith_10 ev3 fl_X4_93 rfl ?_
  refine jw_istore (L' := [some (.ref x0), some (va_rf x1), some (.int x2), some (.int x3), some (.int v1), some (.int v3)]) dX4_lineWith_13 (Nat.le_of_ble_eq_true rfl) rfl ?_
  exact l_X4_lineWith_b15  jw_FU _ _ _ _ _ _ _ _ _ hq

theorem c_X4_lineWith {h : jw_H} {x0 : Nat} {x1 : Option Nat} {x2 : Int32} {x3 : Int32} {r : Int32} {h' : jw_H} (hq : f_X4_lineWith h x0 x1 x2 x3 = some (r, h')) : jw_Con (Cond.code yX4_lineWith cX4_lineWith 6 (some .int)) yX4_lineWith 8 [.ref x0, va_rf x1, .int x2, .int x3] h (.inl (some (.int r))) h' :=
  jw_con false (plainFor_of_name (by decide +kernel)) (fun z => nomatch z) (by simp [jw_ent, jw_sl0_nil, jw_sl0_int, jw_sl0_long, jw_sl0_ref, jw_sl0_rf, jw_sl0_scr, List.replicate]) (by simp [jw_sl0_nil, jw_sl0_int, jw_sl0_long, jw_sl0_ref, jw_sl0_rf, jw_sl0_scr]) (l_X4_lineWith hq)


/-! X10_locate -/
noncomputable def g_X10_locate_b163 (h : jw_H) (t0 : Int32) : Option (Int32 × jw_H) :=
 some (t0, h)

noncomputable def g_X10_locate_b158 (h : jw_H)  : Option (Int32 × jw_H) :=
 g_X10_locate_b163  h (-1 : Int32)

noncomputable def g_X10_locate_b133 (h : jw_H) (x0 : Nat) (x1 : Option Nat) (x2 : Int32) : Option (Int32 × jw_H) :=
 (jw_gI h 0 x1 2).bind fun v1 =>
 if (x2 + v1) < 0 then (g_X10_locate_b158  h )
 else ((jw_gR h 10 (some x0) 1).bind fun v3 =>
 (jw_gR h 9 v3 0).bind fun v4 =>
 (jw_gI h 7 v4 2).bind fun v5 =>
 if (x2 + v1) ≤ v5 then (g_X10_locate_b163  h (x2 + v1))
 else (g_X10_locate_b158  h ))

noncomputable def g_X10_locate_b121 (h : jw_H) (x0 : Nat) (x1 : Option Nat) (t0 : Option Nat) (t1 : Option Nat) (t2 : Int32) (t3 : Int32) : Option (Int32 × jw_H) :=
 (jw_rc h 4 t0).bind fun a1 =>
 jw_b2 (f_X4_lineWith h a1 t1 t2 t3) fun w3 h2 =>
 if w3 = (-1 : Int32) then (some ((-2 : Int32), h2))
 else (g_X10_locate_b133  h2 x0 x1 w3)

noncomputable def g_X10_locate_b95 (h : jw_H) (x0 : Nat) (x1 : Option Nat) : Option (Int32 × jw_H) :=
 (jw_gR h 10 (some x0) 4).bind fun v1 =>
 (jw_gR h 10 (some x0) 1).bind fun v2 =>
 (jw_gI h 0 x1 1).bind fun v3 =>
 (jw_gI h 0 x1 0).bind fun v4 =>
 if v4 = (63 : Int32) then (g_X10_locate_b121  h x0 x1 v1 v2 v3 (1 : Int32))
 else (g_X10_locate_b121  h x0 x1 v1 v2 v3 (0 : Int32))

noncomputable def f_X10_locate (h : jw_H) (x0 : Nat) (x1 : Option Nat) : Option (Int32 × jw_H) :=
 (jw_gR h 10 (some x0) 1).bind fun v1 =>
 (jw_gI h 9 v1 3).bind fun v2 =>
 (jw_gI h 0 x1 0).bind fun v3 =>
 if v3 = (48 : Int32) then ((jw_gI h 0 x1 1).bind fun v22 =>
 g_X10_locate_b133  h x0 x1 v22)
 else ((jw_gI h 0 x1 0).bind fun v5 =>
 if v5 = (36 : Int32) then ((jw_gR h 10 (some x0) 1).bind fun v19 =>
 (jw_gR h 9 v19 0).bind fun v20 =>
 (jw_gI h 7 v20 2).bind fun v21 =>
 g_X10_locate_b133  h x0 x1 v21)
 else ((jw_gI h 0 x1 0).bind fun v7 =>
 if v7 = (39 : Int32) then ((jw_gR h 10 (some x0) 1).bind fun v13 =>
 (jw_gI h 0 x1 1).bind fun v14 =>
 (jw_rc h 9 v13).bind fun a15 =>
 jw_b2 (f_X9_markedLine h a15 v14) fun w17 h16 =>
 if w17 = (-1 : Int32) then (some ((-3 : Int32), h16))
 else (g_X10_locate_b133  h16 x0 x1 w17))
 else ((jw_gI h 0 x1 0).bind fun v9 =>
 if v9 = (47 : Int32) then (g_X10_locate_b95  h x0 x1)
 else ((jw_gI h 0 x1 0).bind fun v11 =>
 if v11 = (63 : Int32) then (g_X10_locate_b95  h x0 x1)
 else (g_X10_locate_b133  h x0 x1 v2)))))

set_option maxRecDepth 100000 in
set_option maxHeartbeats 4000000 in
theorem l_X10_locate_b163 {hi : jw_H} {h : jw_H} {t0 : Int32} {r : Int32} {h' : jw_H} (hq : g_X10_locate_b163  h t0 = some (r, h')) : jw_E 9 uX10_locate hi 163 [none, none, none] [.int t0] h (.inl (some (.int r))) h' := by
  unfold g_X10_locate_b163 at hq
  cases hq
  exact jw_iret (ty := .int) dX10_locate_163 rfl rfl

set_option maxRecDepth 100000 in
set_option maxHeartbeats 4000000 in
theorem l_X10_locate_b158 {hi : jw_H} {h : jw_H}  {r : Int32} {h' : jw_H} (hq : g_X10_locate_b158  h  = some (r, h')) : jw_E 9 uX10_locate hi 158 [none, none, none] [] h (.inl (some (.int r))) h' := by
  unfold g_X10_locate_b158 at hq
  refine jw_iconst dX10_locate_158 (v := (-1 : Int32)) (by decide) ?_
  refine jw_goto (tgt := 163) dX10_locate_159 (by decide) ?_
  exact l_X10_locate_b163  hq

set_option maxRecDepth 100000 in
set_option maxHeartbeats 4000000 in
theorem l_X10_locate_b133 {hi : jw_H} {h : jw_H} {x0 : Nat} {x1 : Option Nat} {x2 : Int32} {r : Int32} {h' : jw_H} (hq : g_X10_locate_b133  h x0 x1 x2 = some (r, h')) : jw_E 9 uX10_locate hi 133 [some (.ref x0), some (va_rf x1), some (.int x2)] [] h (.inl (some (.int r))) h' := by
  unfold g_X10_locate_b133 at hq
  refine jw_iload_n dX10_locate_133 rfl ?_
  refine jw_aload_n dX10_locate_134 (o := x1) rfl ?_
  obtain ⟨v1, ev1, hq⟩ := Option.bind_eq_some_iff.mp hq
  refine jw_getI (o := x1) dX10_locate_135 ev1 fl_X10_181 rfl ?_
  refine jw_iadd dX10_locate_138 ?_
  refine jw_istore_n (L' := [some (.ref x0), some (va_rf x1), some (.int (x2 + v1))]) dX10_locate_139 (Nat.le_of_ble_eq_true rfl) ((jw_st1_of (j := 1) jw_long_rf).trans rfl) ?_
  refine jw_iload_n dX10_locate_140 rfl ?_
  rcases jw_if hq with ⟨c2, hq⟩ | ⟨c2, hq⟩
  · refine jw_if_lt_t (tgt := 158) dX10_locate_141 (by decide) c2 ?_
    refine jw_forget [false, false, false] (L' := [none, none, none]) rfl ?_
    exact l_X10_locate_b158  hq
  · refine jw_if_lt_f (tgt := 158) dX10_locate_141 (by decide) c2 ?_
    refine jw_iload_n dX10_locate_144 rfl ?_
    refine jw_aload_n dX10_locate_145 (o := (some x0)) rfl ?_
    obtain ⟨v3, ev3, hq⟩ := Option.bind_eq_some_iff.mp hq
    refine jw_getR (o := (some x0)) dX10_locate_146 ev3 fl_X10_15 rfl ?_
    obtain ⟨v4, ev4, hq⟩ := Option.bind_eq_some_iff.mp hq
    refine jw_getR (o := v3) dX10_locate_149 ev4 fl_X10_123 rfl ?_
    obtain ⟨v5, ev5, hq⟩ := Option.bind_eq_some_iff.mp hq
    refine jw_getI (o := v4) dX10_locate_152 ev5 fl_X10_126 rfl ?_
    rcases jw_if hq with ⟨c6, hq⟩ | ⟨c6, hq⟩
    · refine jw_icmp_le_t (tgt := 162) dX10_locate_155 (by decide) c6 ?_
      refine jw_iload_n dX10_locate_162 rfl ?_
      refine jw_forget [false, false, false] (L' := [none, none, none]) rfl ?_
      exact l_X10_locate_b163  hq
    · refine jw_icmp_le_f (tgt := 162) dX10_locate_155 (by decide) c6 ?_
      refine jw_forget [false, false, false] (L' := [none, none, none]) rfl ?_
      exact l_X10_locate_b158  hq

set_option maxRecDepth 100000 in
set_option maxHeartbeats 4000000 in
theorem l_X10_locate_b121 {hi : jw_H} {h : jw_H} {x0 : Nat} {x1 : Option Nat} {t0 : Option Nat} {t1 : Option Nat} {t2 : Int32} {t3 : Int32} {r : Int32} {h' : jw_H} (hq : g_X10_locate_b121  h x0 x1 t0 t1 t2 t3 = some (r, h')) : jw_E 9 uX10_locate hi 121 [some (.ref x0), some (va_rf x1), none] [.int t3, .int t2, va_rf t1, va_rf t0] h (.inl (some (.int r))) h' := by
  unfold g_X10_locate_b121 at hq
  obtain ⟨a1, ea1, hq⟩ := Option.bind_eq_some_iff.mp hq
  obtain ⟨eoa1, eta1⟩ := jw_rc_spec ea1
  obtain ⟨w3, h2, ew3, hq⟩ := jw_b2_spec hq
  refine jw_callV (As := [va_rf t1, .int t2, .int t3]) (S := []) (a := a1) (v := some (.int w3)) dX10_locate_121 mt_X4_lineWith in_X4_lineWith se_X4_lineWith lk_X10_175 (c_X4_lineWith ew3) eta1 (by decide) rfl rfl (by decide) (Nat.le_of_ble_eq_true rfl) (by cases eoa1; rfl) ?_
  refine jw_istore_n (L' := [some (.ref x0), some (va_rf x1), some (.int w3)]) dX10_locate_124 (Nat.le_of_ble_eq_true rfl) ((jw_st1_of (j := 1) jw_long_rf).trans rfl) ?_
  refine jw_iload_n dX10_locate_125 rfl ?_
  refine jw_iconst dX10_locate_126 (v := (-1 : Int32)) (by decide) ?_
  rcases jw_if hq with ⟨c4, hq⟩ | ⟨c4, hq⟩
  · refine jw_icmp_ne_f (tgt := 133) dX10_locate_127 (by decide) c4 ?_
    refine jw_bipush dX10_locate_130 (v := (-2 : Int32)) (by decide) ?_
    cases hq
    exact jw_iret (ty := .int) dX10_locate_132 rfl rfl
  · refine jw_icmp_ne_t (tgt := 133) dX10_locate_127 (by decide) c4 ?_
    exact l_X10_locate_b133  hq

set_option maxRecDepth 100000 in
set_option maxHeartbeats 4000000 in
theorem l_X10_locate_b95 {hi : jw_H} {h : jw_H} {x0 : Nat} {x1 : Option Nat} {r : Int32} {h' : jw_H} (hq : g_X10_locate_b95  h x0 x1 = some (r, h')) : jw_E 9 uX10_locate hi 95 [some (.ref x0), some (va_rf x1), none] [] h (.inl (some (.int r))) h' := by
  unfold g_X10_locate_b95 at hq
  refine jw_aload_n dX10_locate_95 (o := (some x0)) rfl ?_
  obtain ⟨v1, ev1, hq⟩ := Option.bind_eq_some_iff.mp hq
  refine jw_getR (o := (some x0)) dX10_locate_96 ev1 fl_X10_26 rfl ?_
  refine jw_aload_n dX10_locate_99 (o := (some x0)) rfl ?_
  obtain ⟨v2, ev2, hq⟩ := Option.bind_eq_some_iff.mp hq
  refine jw_getR (o := (some x0)) dX10_locate_100 ev2 fl_X10_15 rfl ?_
  refine jw_aload_n dX10_locate_103 (o := x1) rfl ?_
  obtain ⟨v3, ev3, hq⟩ := Option.bind_eq_some_iff.mp hq
  refine jw_getI (o := x1) dX10_locate_104 ev3 fl_X10_168 rfl ?_
  refine jw_aload_n dX10_locate_107 (o := x1) rfl ?_
  obtain ⟨v4, ev4, hq⟩ := Option.bind_eq_some_iff.mp hq
  refine jw_getI (o := x1) dX10_locate_108 ev4 fl_X10_163 rfl ?_
  refine jw_bipush dX10_locate_111 (v := (63 : Int32)) (by decide) ?_
  rcases jw_if hq with ⟨c5, hq⟩ | ⟨c5, hq⟩
  · refine jw_icmp_ne_f (tgt := 120) dX10_locate_113 (by decide) c5 ?_
    refine jw_iconst dX10_locate_116 (v := (1 : Int32)) (by decide) ?_
    refine jw_goto (tgt := 121) dX10_locate_117 (by decide) ?_
    exact l_X10_locate_b121  hq
  · refine jw_icmp_ne_t (tgt := 120) dX10_locate_113 (by decide) c5 ?_
    refine jw_iconst dX10_locate_120 (v := (0 : Int32)) (by decide) ?_
    exact l_X10_locate_b121  hq

set_option maxRecDepth 100000 in
set_option maxHeartbeats 4000000 in
theorem l_X10_locate {hi : jw_H} {h : jw_H} {x0 : Nat} {x1 : Option Nat} {r : Int32} {h' : jw_H} (hq : f_X10_locate  h x0 x1 = some (r, h')) : jw_E 9 uX10_locate hi 0 [some (.ref x0), some (va_rf x1), none] [] h (.inl (some (.int r))) h' := by
  unfold f_X10_locate at hq
  refine jw_aload_n dX10_locate_0 (o := (some x0)) rfl ?_
  obtain ⟨v1, ev1, hq⟩ := Option.bind_eq_some_iff.mp hq
  refine jw_getR (o := (some x0)) dX10_locate_1 ev1 fl_X10_15 rfl ?_
  obtain ⟨v2, ev2, hq⟩ := Option.bind_eq_some_iff.mp hq
  refine jw_getI (o := v1) dX10_locate_4 ev2 fl_X10_135 rfl ?_
  refine jw_istore_n (L' := [some (.ref x0), some (va_rf x1), some (.int v2)]) dX10_locate_7 (Nat.le_of_ble_eq_true rfl) ((jw_st1_of (j := 1) jw_long_rf).trans rfl) ?_
  refine jw_aload_n dX10_locate_8 (o := x1) rfl ?_
  obtain ⟨v3, ev3, hq⟩ := Option.bind_eq_some_iff.mp hq
  refine jw_getI (o := x1) dX10_locate_9 ev3 fl_X10_163 rfl ?_
  refine jw_bipush dX10_locate_12 (v := (48 : Int32)) (by decide) ?_
  rcases jw_if hq with ⟨c4, hq⟩ | ⟨c4, hq⟩
  · refine jw_icmp_ne_f (tgt := 25) dX10_locate_14 (by decide) c4 ?_
    refine jw_aload_n dX10_locate_17 (o := x1) rfl ?_
    obtain ⟨v22, ev22, hq⟩ := Option.bind_eq_some_iff.mp hq
    refine jw_getI (o := x1) dX10_locate_18 ev22 fl_X10_168 rfl ?_
    refine jw_istore_n (L' := [some (.ref x0), some (va_rf x1), some (.int v22)]) dX10_locate_21 (Nat.le_of_ble_eq_true rfl) ((jw_st1_of (j := 1) jw_long_rf).trans rfl) ?_
    refine jw_goto (tgt := 133) dX10_locate_22 (by decide) ?_
    exact l_X10_locate_b133  hq
  · refine jw_icmp_ne_t (tgt := 25) dX10_locate_14 (by decide) c4 ?_
    refine jw_aload_n dX10_locate_25 (o := x1) rfl ?_
    obtain ⟨v5, ev5, hq⟩ := Option.bind_eq_some_iff.mp hq
    refine jw_getI (o := x1) dX10_locate_26 ev5 fl_X10_163 rfl ?_
    refine jw_bipush dX10_locate_29 (v := (36 : Int32)) (by decide) ?_
    rcases jw_if hq with ⟨c6, hq⟩ | ⟨c6, hq⟩
    · refine jw_icmp_ne_f (tgt := 48) dX10_locate_31 (by decide) c6 ?_
      refine jw_aload_n dX10_locate_34 (o := (some x0)) rfl ?_
      obtain ⟨v19, ev19, hq⟩ := Option.bind_eq_some_iff.mp hq
      refine jw_getR (o := (some x0)) dX10_locate_35 ev19 fl_X10_15 rfl ?_
      obtain ⟨v20, ev20, hq⟩ := Option.bind_eq_some_iff.mp hq
      refine jw_getR (o := v19) dX10_locate_38 ev20 fl_X10_123 rfl ?_
      obtain ⟨v21, ev21, hq⟩ := Option.bind_eq_some_iff.mp hq
      refine jw_getI (o := v20) dX10_locate_41 ev21 fl_X10_126 rfl ?_
      refine jw_istore_n (L' := [some (.ref x0), some (va_rf x1), some (.int v21)]) dX10_locate_44 (Nat.le_of_ble_eq_true rfl) ((jw_st1_of (j := 1) jw_long_rf).trans rfl) ?_
      refine jw_goto (tgt := 133) dX10_locate_45 (by decide) ?_
      exact l_X10_locate_b133  hq
    · refine jw_icmp_ne_t (tgt := 48) dX10_locate_31 (by decide) c6 ?_
      refine jw_aload_n dX10_locate_48 (o := x1) rfl ?_
      obtain ⟨v7, ev7, hq⟩ := Option.bind_eq_some_iff.mp hq
      refine jw_getI (o := x1) dX10_locate_49 ev7 fl_X10_163 rfl ?_
      refine jw_bipush dX10_locate_52 (v := (39 : Int32)) (by decide) ?_
      rcases jw_if hq with ⟨c8, hq⟩ | ⟨c8, hq⟩
      · refine jw_icmp_ne_f (tgt := 77) dX10_locate_54 (by decide) c8 ?_
        refine jw_aload_n dX10_locate_57 (o := (some x0)) rfl ?_
        obtain ⟨v13, ev13, hq⟩ := Option.bind_eq_some_iff.mp hq
        refine jw_getR (o := (some x0)) dX10_locate_58 ev13 fl_X10_15 rfl ?_
        refine jw_aload_n dX10_locate_61 (o := x1) rfl ?_
        obtain ⟨v14, ev14, hq⟩ := Option.bind_eq_some_iff.mp hq
        refine jw_getI (o := x1) dX10_locate_62 ev14 fl_X10_168 rfl ?_
        obtain ⟨a15, ea15, hq⟩ := Option.bind_eq_some_iff.mp hq
        obtain ⟨eoa15, eta15⟩ := jw_rc_spec ea15
        obtain ⟨w17, h16, ew17, hq⟩ := jw_b2_spec hq
        refine jw_callV (As := [.int v14]) (S := []) (a := a15) (v := some (.int w17)) dX10_locate_65 mt_X9_markedLine in_X9_markedLine se_X9_markedLine lk_X10_171 (c_X9_markedLine ew17) eta15 (by decide) rfl rfl (by decide) (Nat.le_of_ble_eq_true rfl) (by cases eoa15; rfl) ?_
        refine jw_istore_n (L' := [some (.ref x0), some (va_rf x1), some (.int w17)]) dX10_locate_68 (Nat.le_of_ble_eq_true rfl) ((jw_st1_of (j := 1) jw_long_rf).trans rfl) ?_
        refine jw_iload_n dX10_locate_69 rfl ?_
        refine jw_iconst dX10_locate_70 (v := (-1 : Int32)) (by decide) ?_
        rcases jw_if hq with ⟨c18, hq⟩ | ⟨c18, hq⟩
        · refine jw_icmp_ne_f (tgt := 133) dX10_locate_71 (by decide) c18 ?_
          refine jw_bipush dX10_locate_74 (v := (-3 : Int32)) (by decide) ?_
          cases hq
          exact jw_iret (ty := .int) dX10_locate_76 rfl rfl
        · refine jw_icmp_ne_t (tgt := 133) dX10_locate_71 (by decide) c18 ?_
          exact l_X10_locate_b133  hq
      · refine jw_icmp_ne_t (tgt := 77) dX10_locate_54 (by decide) c8 ?_
        refine jw_aload_n dX10_locate_77 (o := x1) rfl ?_
        obtain ⟨v9, ev9, hq⟩ := Option.bind_eq_some_iff.mp hq
        refine jw_getI (o := x1) dX10_locate_78 ev9 fl_X10_163 rfl ?_
        refine jw_bipush dX10_locate_81 (v := (47 : Int32)) (by decide) ?_
        rcases jw_if hq with ⟨c10, hq⟩ | ⟨c10, hq⟩
        · refine jw_icmp_eq_t (tgt := 95) dX10_locate_83 (by decide) c10 ?_
          refine jw_forget [true, true, false] (L' := [some (.ref x0), some (va_rf x1), none]) rfl ?_
          exact l_X10_locate_b95  hq
        · refine jw_icmp_eq_f (tgt := 95) dX10_locate_83 (by decide) c10 ?_
          refine jw_aload_n dX10_locate_86 (o := x1) rfl ?_
          obtain ⟨v11, ev11, hq⟩ := Option.bind_eq_some_iff.mp hq
          refine jw_getI (o := x1) dX10_locate_87 ev11 fl_X10_163 rfl ?_
          refine jw_bipush dX10_locate_90 (v := (63 : Int32)) (by decide) ?_
          rcases jw_if hq with ⟨c12, hq⟩ | ⟨c12, hq⟩
          · refine jw_icmp_ne_f (tgt := 133) dX10_locate_92 (by decide) c12 ?_
            refine jw_forget [true, true, false] (L' := [some (.ref x0), some (va_rf x1), none]) rfl ?_
            exact l_X10_locate_b95  hq
          · refine jw_icmp_ne_t (tgt := 133) dX10_locate_92 (by decide) c12 ?_
            exact l_X10_locate_b133  hq

theorem c_X10_locate {h : jw_H} {x0 : Nat} {x1 : Option Nat} {r : Int32} {h' : jw_H} (hq : f_X10_locate h x0 x1 = some (r, h')) : jw_Con (Cond.code yX10_locate cX10_locate 3 (some .int)) yX10_locate 9 [.ref x0, va_rf x1] h (.inl (some (.int r))) h' :=
  jw_con false (plainFor_of_name (by decide +kernel)) (fun z => nomatch z) (by simp [jw_ent, jw_sl0_nil, jw_sl0_int, jw_sl0_long, jw_sl0_ref, jw_sl0_rf, jw_sl0_scr, List.replicate]) (by simp [jw_sl0_nil, jw_sl0_int, jw_sl0_long, jw_sl0_ref, jw_sl0_rf, jw_sl0_scr]) (l_X10_locate hq)


/-! X5_mayStandBehindNone -/
noncomputable def g_X5_mayStandBehindNone_b47 (h : jw_H) (t0 : Int32) : Option (Int32 × jw_H) :=
 (jw_rb t0).bind fun v1 =>
 some (t0, h)

noncomputable def g_X5_mayStandBehindNone_b42 (h : jw_H)  : Option (Int32 × jw_H) :=
 g_X5_mayStandBehindNone_b47  h (1 : Int32)

noncomputable def g_X5_mayStandBehindNone_b46 (h : jw_H)  : Option (Int32 × jw_H) :=
 g_X5_mayStandBehindNone_b47  h (0 : Int32)

noncomputable def g_X5_mayStandBehindNone_b27 (h : jw_H) (x0 : Nat) : Option (Int32 × jw_H) :=
 (jw_gI h 5 (some x0) 4).bind fun v1 =>
 if v1 = (2 : Int32) then (g_X5_mayStandBehindNone_b42  h )
 else ((jw_gI h 5 (some x0) 4).bind fun v3 =>
 if v3 = 0 then (g_X5_mayStandBehindNone_b42  h )
 else (g_X5_mayStandBehindNone_b46  h ))

noncomputable def f_X5_mayStandBehindNone (h : jw_H) (x0 : Nat) : Option (Int32 × jw_H) :=
 (jw_gI h 5 (some x0) 3).bind fun v1 =>
 if v1 = (97 : Int32) then (g_X5_mayStandBehindNone_b27  h x0)
 else ((jw_gI h 5 (some x0) 3).bind fun v3 =>
 if v3 = (114 : Int32) then (g_X5_mayStandBehindNone_b27  h x0)
 else ((jw_gI h 5 (some x0) 3).bind fun v5 =>
 if v5 = (117 : Int32) then (g_X5_mayStandBehindNone_b27  h x0)
 else (g_X5_mayStandBehindNone_b46  h )))

set_option maxRecDepth 100000 in
set_option maxHeartbeats 4000000 in
theorem l_X5_mayStandBehindNone_b47 {hi : jw_H} {h : jw_H} {t0 : Int32} {r : Int32} {h' : jw_H} (hq : g_X5_mayStandBehindNone_b47  h t0 = some (r, h')) : jw_E 0 uX5_mayStandBehindNone hi 47 [none] [.int t0] h (.inl (some (.int r))) h' := by
  unfold g_X5_mayStandBehindNone_b47 at hq
  obtain ⟨v1, ev1, hq⟩ := Option.bind_eq_some_iff.mp hq
  cases hq
  exact jw_iret (ty := .boolean) dX5_mayStandBehindNone_47 rfl (jw_rb_spec ev1)

set_option maxRecDepth 100000 in
set_option maxHeartbeats 4000000 in
theorem l_X5_mayStandBehindNone_b42 {hi : jw_H} {h : jw_H}  {r : Int32} {h' : jw_H} (hq : g_X5_mayStandBehindNone_b42  h  = some (r, h')) : jw_E 0 uX5_mayStandBehindNone hi 42 [none] [] h (.inl (some (.int r))) h' := by
  unfold g_X5_mayStandBehindNone_b42 at hq
  refine jw_iconst dX5_mayStandBehindNone_42 (v := (1 : Int32)) (by decide) ?_
  refine jw_goto (tgt := 47) dX5_mayStandBehindNone_43 (by decide) ?_
  exact l_X5_mayStandBehindNone_b47  hq

set_option maxRecDepth 100000 in
set_option maxHeartbeats 4000000 in
theorem l_X5_mayStandBehindNone_b46 {hi : jw_H} {h : jw_H}  {r : Int32} {h' : jw_H} (hq : g_X5_mayStandBehindNone_b46  h  = some (r, h')) : jw_E 0 uX5_mayStandBehindNone hi 46 [none] [] h (.inl (some (.int r))) h' := by
  unfold g_X5_mayStandBehindNone_b46 at hq
  refine jw_iconst dX5_mayStandBehindNone_46 (v := (0 : Int32)) (by decide) ?_
  exact l_X5_mayStandBehindNone_b47  hq

set_option maxRecDepth 100000 in
set_option maxHeartbeats 4000000 in
theorem l_X5_mayStandBehindNone_b27 {hi : jw_H} {h : jw_H} {x0 : Nat} {r : Int32} {h' : jw_H} (hq : g_X5_mayStandBehindNone_b27  h x0 = some (r, h')) : jw_E 0 uX5_mayStandBehindNone hi 27 [some (.ref x0)] [] h (.inl (some (.int r))) h' := by
  unfold g_X5_mayStandBehindNone_b27 at hq
  refine jw_aload_n dX5_mayStandBehindNone_27 (o := (some x0)) rfl ?_
  obtain ⟨v1, ev1, hq⟩ := Option.bind_eq_some_iff.mp hq
  refine jw_getI (o := (some x0)) dX5_mayStandBehindNone_28 ev1 fl_X5_31 rfl ?_
  refine jw_iconst dX5_mayStandBehindNone_31 (v := (2 : Int32)) (by decide) ?_
  rcases jw_if hq with ⟨c2, hq⟩ | ⟨c2, hq⟩
  · refine jw_icmp_eq_t (tgt := 42) dX5_mayStandBehindNone_32 (by decide) c2 ?_
    refine jw_forget [false] (L' := [none]) rfl ?_
    exact l_X5_mayStandBehindNone_b42  hq
  · refine jw_icmp_eq_f (tgt := 42) dX5_mayStandBehindNone_32 (by decide) c2 ?_
    refine jw_aload_n dX5_mayStandBehindNone_35 (o := (some x0)) rfl ?_
    obtain ⟨v3, ev3, hq⟩ := Option.bind_eq_some_iff.mp hq
    refine jw_getI (o := (some x0)) dX5_mayStandBehindNone_36 ev3 fl_X5_31 rfl ?_
    rcases jw_if hq with ⟨c4, hq⟩ | ⟨c4, hq⟩
    · refine jw_if_ne_f (tgt := 46) dX5_mayStandBehindNone_39 (by decide) c4 ?_
      refine jw_forget [false] (L' := [none]) rfl ?_
      exact l_X5_mayStandBehindNone_b42  hq
    · refine jw_if_ne_t (tgt := 46) dX5_mayStandBehindNone_39 (by decide) c4 ?_
      refine jw_forget [false] (L' := [none]) rfl ?_
      exact l_X5_mayStandBehindNone_b46  hq

set_option maxRecDepth 100000 in
set_option maxHeartbeats 4000000 in
theorem l_X5_mayStandBehindNone {hi : jw_H} {h : jw_H} {x0 : Nat} {r : Int32} {h' : jw_H} (hq : f_X5_mayStandBehindNone  h x0 = some (r, h')) : jw_E 0 uX5_mayStandBehindNone hi 0 [some (.ref x0)] [] h (.inl (some (.int r))) h' := by
  unfold f_X5_mayStandBehindNone at hq
  refine jw_aload_n dX5_mayStandBehindNone_0 (o := (some x0)) rfl ?_
  obtain ⟨v1, ev1, hq⟩ := Option.bind_eq_some_iff.mp hq
  refine jw_getI (o := (some x0)) dX5_mayStandBehindNone_1 ev1 fl_X5_27 rfl ?_
  refine jw_bipush dX5_mayStandBehindNone_4 (v := (97 : Int32)) (by decide) ?_
  rcases jw_if hq with ⟨c2, hq⟩ | ⟨c2, hq⟩
  · refine jw_icmp_eq_t (tgt := 27) dX5_mayStandBehindNone_6 (by decide) c2 ?_
    exact l_X5_mayStandBehindNone_b27  hq
  · refine jw_icmp_eq_f (tgt := 27) dX5_mayStandBehindNone_6 (by decide) c2 ?_
    refine jw_aload_n dX5_mayStandBehindNone_9 (o := (some x0)) rfl ?_
    obtain ⟨v3, ev3, hq⟩ := Option.bind_eq_some_iff.mp hq
    refine jw_getI (o := (some x0)) dX5_mayStandBehindNone_10 ev3 fl_X5_27 rfl ?_
    refine jw_bipush dX5_mayStandBehindNone_13 (v := (114 : Int32)) (by decide) ?_
    rcases jw_if hq with ⟨c4, hq⟩ | ⟨c4, hq⟩
    · refine jw_icmp_eq_t (tgt := 27) dX5_mayStandBehindNone_15 (by decide) c4 ?_
      exact l_X5_mayStandBehindNone_b27  hq
    · refine jw_icmp_eq_f (tgt := 27) dX5_mayStandBehindNone_15 (by decide) c4 ?_
      refine jw_aload_n dX5_mayStandBehindNone_18 (o := (some x0)) rfl ?_
      obtain ⟨v5, ev5, hq⟩ := Option.bind_eq_some_iff.mp hq
      refine jw_getI (o := (some x0)) dX5_mayStandBehindNone_19 ev5 fl_X5_27 rfl ?_
      refine jw_bipush dX5_mayStandBehindNone_22 (v := (117 : Int32)) (by decide) ?_
      rcases jw_if hq with ⟨c6, hq⟩ | ⟨c6, hq⟩
      · refine jw_icmp_ne_f (tgt := 46) dX5_mayStandBehindNone_24 (by decide) c6 ?_
        exact l_X5_mayStandBehindNone_b27  hq
      · refine jw_icmp_ne_t (tgt := 46) dX5_mayStandBehindNone_24 (by decide) c6 ?_
        refine jw_forget [false] (L' := [none]) rfl ?_
        exact l_X5_mayStandBehindNone_b46  hq

theorem c_X5_mayStandBehindNone {h : jw_H} {x0 : Nat} {r : Int32} {h' : jw_H} (hq : f_X5_mayStandBehindNone h x0 = some (r, h')) : jw_Con (Cond.code yX5_mayStandBehindNone cX5_mayStandBehindNone 1 (some .boolean)) yX5_mayStandBehindNone 0 [.ref x0] h (.inl (some (.int r))) h' :=
  jw_con false (plainFor_of_name (by decide +kernel)) (fun z => nomatch z) (by simp [jw_ent, jw_sl0_nil, jw_sl0_int, jw_sl0_long, jw_sl0_ref, jw_sl0_rf, jw_sl0_scr, List.replicate]) (by simp [jw_sl0_nil, jw_sl0_int, jw_sl0_long, jw_sl0_ref, jw_sl0_rf, jw_sl0_scr]) (l_X5_mayStandBehindNone hq)


/-! X10_findRange -/
noncomputable def g_X10_findRange_b107 (h : jw_H) (t0 : Int32) : Option (Int32 × jw_H) :=
 some (t0, h)

noncomputable def g_X10_findRange_b102 (h : jw_H)  : Option (Int32 × jw_H) :=
 g_X10_findRange_b107  h (0 : Int32)

noncomputable def g_X10_findRange_b184 (h : jw_H) (x0 : Nat) : Option (Int32 × jw_H) :=
 (jw_gI h 10 (some x0) 12).bind fun v1 =>
 (jw_gI h 10 (some x0) 13).bind fun v2 =>
 jw_b2 (f_J9_min_7cf53 h v1 v2) fun w4 h3 =>
 some ((-w4), h3)

noncomputable def g_X10_findRange_b227 (h : jw_H) (t0 : Int32) : Option (Int32 × jw_H) :=
 some (t0, h)

noncomputable def g_X10_findRange_b222 (h : jw_H)  : Option (Int32 × jw_H) :=
 g_X10_findRange_b227  h (1 : Int32)

noncomputable def g_X10_findRange_b226 (h : jw_H)  : Option (Int32 × jw_H) :=
 g_X10_findRange_b227  h (0 : Int32)

noncomputable def g_X10_findRange_b170 (h : jw_H) (x0 : Nat) (x1 : Option Nat) : Option (Int32 × jw_H) :=
 (jw_gI h 10 (some x0) 12).bind fun v1 =>
 if v1 < 0 then (g_X10_findRange_b184  h x0)
 else ((jw_gI h 10 (some x0) 13).bind fun v3 =>
 if 0 ≤ v3 then ((jw_gI h 10 (some x0) 12).bind fun v5 =>
 (jw_gI h 10 (some x0) 13).bind fun v6 =>
 if v6 < v5 then (g_X10_findRange_b222  h )
 else ((jw_gI h 10 (some x0) 12).bind fun v8 =>
 if v8 = 0 then ((jw_rc h 5 x1).bind fun a10 =>
 jw_b2 (f_X5_mayStandBehindNone h a10) fun w12 h11 =>
 if w12 = 0 then (g_X10_findRange_b222  h11 )
 else (g_X10_findRange_b226  h11 ))
 else (g_X10_findRange_b226  h )))
 else (g_X10_findRange_b184  h x0))

noncomputable def g_X10_findRange_b167 (h : jw_H) (x0 : Nat) (x1 : Option Nat) (t0 : Nat) (t1 : Int32) : Option (Int32 × jw_H) :=
 (jw_pI h 10 (some t0) 13 t1).bind fun h1 =>
 g_X10_findRange_b170  h1 x0 x1

noncomputable def g_X10_findRange_b163 (h : jw_H) (x0 : Nat) (x1 : Option Nat) (t0 : Nat) : Option (Int32 × jw_H) :=
 (jw_gI h 10 (some x0) 12).bind fun v1 =>
 g_X10_findRange_b167  h x0 x1 t0 v1

noncomputable def g_X10_findRange_b124 (h : jw_H) (x0 : Nat) (x1 : Option Nat) : Option (Int32 × jw_H) :=
 (jw_gR h 5 x1 0).bind fun v1 =>
 (jw_rc h 10 (some x0)).bind fun a2 =>
 jw_b2 (f_X10_locate h a2 v1) fun w4 h3 =>
 (jw_pI h3 10 (some x0) 12 w4).bind fun h5 =>
 (jw_gI h5 5 x1 4).bind fun v6 =>
 if v6 = (3 : Int32) then ((jw_gI h5 10 (some x0) 12).bind fun v8 =>
 if v8 < 0 then (g_X10_findRange_b163  h5 x0 x1 x0)
 else ((jw_gR h5 5 x1 1).bind fun v10 =>
 (jw_rc h5 10 (some x0)).bind fun a11 =>
 jw_b2 (f_X10_locate h5 a11 v10) fun w13 h12 =>
 g_X10_findRange_b167  h12 x0 x1 x0 w13))
 else (g_X10_findRange_b163  h5 x0 x1 x0)

noncomputable def g_X10_findRange_b55 (h : jw_H) (x0 : Nat) (x1 : Option Nat) (x2 : Int32) (x3 : Int32) : Option (Int32 × jw_H) :=
 (jw_gR h 10 (some x0) 1).bind fun v1 =>
 (jw_gI h 9 v1 3).bind fun v2 =>
 (jw_pI h 10 (some x0) 12 v2).bind fun h3 =>
 (jw_gR h3 10 (some x0) 1).bind fun v4 =>
 (jw_gI h3 9 v4 3).bind fun v5 =>
 (jw_pI h3 10 (some x0) 13 v5).bind fun h6 =>
 if x3 = 0 then ((jw_gI h6 5 x1 4).bind fun v8 =>
 if v8 = (2 : Int32) then (g_X10_findRange_b124  h6 x0 x1)
 else ((jw_gI h6 5 x1 4).bind fun v10 =>
 if v10 = (3 : Int32) then (g_X10_findRange_b124  h6 x0 x1)
 else (g_X10_findRange_b170  h6 x0 x1)))
 else ((jw_pI h6 10 (some x0) 12 (1 : Int32)).bind fun h12 =>
 (jw_pI h12 10 (some x0) 13 x2).bind fun h13 =>
 if 0 < x2 then (g_X10_findRange_b102  h13 )
 else ((jw_rc h13 5 x1).bind fun a15 =>
 jw_b2 (f_X5_takesAll h13 a15) fun w17 h16 =>
 if w17 = 0 then (g_X10_findRange_b107  h16 (1 : Int32))
 else (g_X10_findRange_b102  h16 )))

noncomputable def g_X10_findRange_b38 (h : jw_H) (x0 : Nat) (x1 : Option Nat) (x2 : Int32) (t0 : Int32) : Option (Int32 × jw_H) :=
 (jw_gI h 5 x1 4).bind fun v1 =>
 if v1 = 0 then ((jw_rc h 5 x1).bind fun a3 =>
 jw_b2 (f_X5_steers h a3) fun w5 h4 =>
 if w5 = 0 then (g_X10_findRange_b55  h4 x0 x1 x2 t0)
 else (some ((0 : Int32), h4)))
 else (g_X10_findRange_b55  h x0 x1 x2 t0)

noncomputable def g_X10_findRange_b33 (h : jw_H) (x0 : Nat) (x1 : Option Nat) (x2 : Int32) : Option (Int32 × jw_H) :=
 g_X10_findRange_b38  h x0 x1 x2 (1 : Int32)

noncomputable def g_X10_findRange_b37 (h : jw_H) (x0 : Nat) (x1 : Option Nat) (x2 : Int32) : Option (Int32 × jw_H) :=
 g_X10_findRange_b38  h x0 x1 x2 (0 : Int32)

noncomputable def f_X10_findRange (h : jw_H) (x0 : Nat) (x1 : Option Nat) : Option (Int32 × jw_H) :=
 (jw_gR h 10 (some x0) 1).bind fun v1 =>
 (jw_gR h 9 v1 0).bind fun v2 =>
 (jw_gI h 7 v2 2).bind fun v3 =>
 (jw_gI h 5 x1 4).bind fun v4 =>
 if v4 = (1 : Int32) then (g_X10_findRange_b33  h x0 x1 v3)
 else ((jw_gI h 5 x1 4).bind fun v6 =>
 if v6 = 0 then ((jw_rc h 5 x1).bind fun a8 =>
 jw_b2 (f_X5_takesAll h a8) fun w10 h9 =>
 if w10 = 0 then (g_X10_findRange_b37  h9 x0 x1 v3)
 else (g_X10_findRange_b33  h9 x0 x1 v3))
 else (g_X10_findRange_b37  h x0 x1 v3))

set_option maxRecDepth 100000 in
set_option maxHeartbeats 4000000 in
theorem l_X10_findRange_b107 {hi : jw_H} {h : jw_H} {t0 : Int32} {r : Int32} {h' : jw_H} (hq : g_X10_findRange_b107  h t0 = some (r, h')) : jw_E 10 uX10_findRange hi 107 [none, none, none, none] [.int t0] h (.inl (some (.int r))) h' := by
  unfold g_X10_findRange_b107 at hq
  cases hq
  exact jw_iret (ty := .int) dX10_findRange_107 rfl rfl

set_option maxRecDepth 100000 in
set_option maxHeartbeats 4000000 in
theorem l_X10_findRange_b102 {hi : jw_H} {h : jw_H}  {r : Int32} {h' : jw_H} (hq : g_X10_findRange_b102  h  = some (r, h')) : jw_E 10 uX10_findRange hi 102 [none, none, none, none] [] h (.inl (some (.int r))) h' := by
  unfold g_X10_findRange_b102 at hq
  refine jw_iconst dX10_findRange_102 (v := (0 : Int32)) (by decide) ?_
  refine jw_goto (tgt := 107) dX10_findRange_103 (by decide) ?_
  exact l_X10_findRange_b107  hq

set_option maxRecDepth 100000 in
set_option maxHeartbeats 4000000 in
theorem l_X10_findRange_b184 {hi : jw_H} {h : jw_H} {x0 : Nat} {r : Int32} {h' : jw_H} (hq : g_X10_findRange_b184  h x0 = some (r, h')) : jw_E 10 uX10_findRange hi 184 [some (.ref x0), none, none, none] [] h (.inl (some (.int r))) h' := by
  unfold g_X10_findRange_b184 at hq
  refine jw_aload_n dX10_findRange_184 (o := (some x0)) rfl ?_
  obtain ⟨v1, ev1, hq⟩ := Option.bind_eq_some_iff.mp hq
  refine jw_getI (o := (some x0)) dX10_findRange_185 ev1 fl_X10_138 rfl ?_
  refine jw_aload_n dX10_findRange_188 (o := (some x0)) rfl ?_
  obtain ⟨v2, ev2, hq⟩ := Option.bind_eq_some_iff.mp hq
  refine jw_getI (o := (some x0)) dX10_findRange_189 ev2 fl_X10_141 rfl ?_
  obtain ⟨w4, h3, ew4, hq⟩ := jw_b2_spec hq
  refine jw_callS (As := [.int v1, .int v2]) (S := []) (v := some (.int w4)) dX10_findRange_192 mt_J9_min_7cf53 st_J9_min_7cf53 lk_X10_154 (c_J9_min_7cf53 ew4) rfl (by decide) (Nat.le_of_ble_eq_true rfl) rfl ?_
  refine jw_ineg dX10_findRange_195 ?_
  cases hq
  exact jw_iret (ty := .int) dX10_findRange_196 rfl rfl

set_option maxRecDepth 100000 in
set_option maxHeartbeats 4000000 in
theorem l_X10_findRange_b227 {hi : jw_H} {h : jw_H} {t0 : Int32} {r : Int32} {h' : jw_H} (hq : g_X10_findRange_b227  h t0 = some (r, h')) : jw_E 10 uX10_findRange hi 227 [none, none, none, none] [.int t0] h (.inl (some (.int r))) h' := by
  unfold g_X10_findRange_b227 at hq
  cases hq
  exact jw_iret (ty := .int) dX10_findRange_227 rfl rfl

set_option maxRecDepth 100000 in
set_option maxHeartbeats 4000000 in
theorem l_X10_findRange_b222 {hi : jw_H} {h : jw_H}  {r : Int32} {h' : jw_H} (hq : g_X10_findRange_b222  h  = some (r, h')) : jw_E 10 uX10_findRange hi 222 [none, none, none, none] [] h (.inl (some (.int r))) h' := by
  unfold g_X10_findRange_b222 at hq
  refine jw_iconst dX10_findRange_222 (v := (1 : Int32)) (by decide) ?_
  refine jw_goto (tgt := 227) dX10_findRange_223 (by decide) ?_
  exact l_X10_findRange_b227  hq

set_option maxRecDepth 100000 in
set_option maxHeartbeats 4000000 in
theorem l_X10_findRange_b226 {hi : jw_H} {h : jw_H}  {r : Int32} {h' : jw_H} (hq : g_X10_findRange_b226  h  = some (r, h')) : jw_E 10 uX10_findRange hi 226 [none, none, none, none] [] h (.inl (some (.int r))) h' := by
  unfold g_X10_findRange_b226 at hq
  refine jw_iconst dX10_findRange_226 (v := (0 : Int32)) (by decide) ?_
  exact l_X10_findRange_b227  hq

set_option maxRecDepth 100000 in
set_option maxHeartbeats 4000000 in
theorem l_X10_findRange_b170 {hi : jw_H} {h : jw_H} {x0 : Nat} {x1 : Option Nat} {r : Int32} {h' : jw_H} (hq : g_X10_findRange_b170  h x0 x1 = some (r, h')) : jw_E 10 uX10_findRange hi 170 [some (.ref x0), some (va_rf x1), none, none] [] h (.inl (some (.int r))) h' := by
  unfold g_X10_findRange_b170 at hq
  refine jw_aload_n dX10_findRange_170 (o := (some x0)) rfl ?_
  obtain ⟨v1, ev1, hq⟩ := Option.bind_eq_some_iff.mp hq
  refine jw_getI (o := (some x0)) dX10_findRange_171 ev1 fl_X10_138 rfl ?_
  rcases jw_if hq with ⟨c2, hq⟩ | ⟨c2, hq⟩
  · refine jw_if_lt_t (tgt := 184) dX10_findRange_174 (by decide) c2 ?_
    refine jw_forget [true, false, true, true] (L' := [some (.ref x0), none, none, none]) rfl ?_
    exact l_X10_findRange_b184  hq
  · refine jw_if_lt_f (tgt := 184) dX10_findRange_174 (by decide) c2 ?_
    refine jw_aload_n dX10_findRange_177 (o := (some x0)) rfl ?_
    obtain ⟨v3, ev3, hq⟩ := Option.bind_eq_some_iff.mp hq
    refine jw_getI (o := (some x0)) dX10_findRange_178 ev3 fl_X10_141 rfl ?_
    rcases jw_if hq with ⟨c4, hq⟩ | ⟨c4, hq⟩
    · refine jw_if_ge_t (tgt := 197) dX10_findRange_181 (by decide) c4 ?_
      refine jw_aload_n dX10_findRange_197 (o := (some x0)) rfl ?_
      obtain ⟨v5, ev5, hq⟩ := Option.bind_eq_some_iff.mp hq
      refine jw_getI (o := (some x0)) dX10_findRange_198 ev5 fl_X10_138 rfl ?_
      refine jw_aload_n dX10_findRange_201 (o := (some x0)) rfl ?_
      obtain ⟨v6, ev6, hq⟩ := Option.bind_eq_some_iff.mp hq
      refine jw_getI (o := (some x0)) dX10_findRange_202 ev6 fl_X10_141 rfl ?_
      rcases jw_if hq with ⟨c7, hq⟩ | ⟨c7, hq⟩
      · refine jw_icmp_gt_t (tgt := 222) dX10_findRange_205 (by decide) c7 ?_
        refine jw_forget [false, false, true, true] (L' := [none, none, none, none]) rfl ?_
        exact l_X10_findRange_b222  hq
      · refine jw_icmp_gt_f (tgt := 222) dX10_findRange_205 (by decide) c7 ?_
        refine jw_aload_n dX10_findRange_208 (o := (some x0)) rfl ?_
        obtain ⟨v8, ev8, hq⟩ := Option.bind_eq_some_iff.mp hq
        refine jw_getI (o := (some x0)) dX10_findRange_209 ev8 fl_X10_138 rfl ?_
        rcases jw_if hq with ⟨c9, hq⟩ | ⟨c9, hq⟩
        · refine jw_if_ne_f (tgt := 226) dX10_findRange_212 (by decide) c9 ?_
          refine jw_aload_n dX10_findRange_215 (o := x1) rfl ?_
          obtain ⟨a10, ea10, hq⟩ := Option.bind_eq_some_iff.mp hq
          obtain ⟨eoa10, eta10⟩ := jw_rc_spec ea10
          obtain ⟨w12, h11, ew12, hq⟩ := jw_b2_spec hq
          refine jw_callV (As := []) (S := []) (a := a10) (v := some (.int w12)) dX10_findRange_216 mt_X5_mayStandBehindNone in_X5_mayStandBehindNone se_X5_mayStandBehindNone lk_X10_160 (c_X5_mayStandBehindNone ew12) eta10 (by decide) rfl rfl (by decide) (Nat.le_of_ble_eq_true rfl) (by cases eoa10; rfl) ?_
          rcases jw_if hq with ⟨c13, hq⟩ | ⟨c13, hq⟩
          · refine jw_if_ne_f (tgt := 226) dX10_findRange_219 (by decide) c13 ?_
            refine jw_forget [false, false, true, true] (L' := [none, none, none, none]) rfl ?_
            exact l_X10_findRange_b222  hq
          · refine jw_if_ne_t (tgt := 226) dX10_findRange_219 (by decide) c13 ?_
            refine jw_forget [false, false, true, true] (L' := [none, none, none, none]) rfl ?_
            exact l_X10_findRange_b226  hq
        · refine jw_if_ne_t (tgt := 226) dX10_findRange_212 (by decide) c9 ?_
          refine jw_forget [false, false, true, true] (L' := [none, none, none, none]) rfl ?_
          exact l_X10_findRange_b226  hq
    · refine jw_if_ge_f (tgt := 197) dX10_findRange_181 (by decide) c4 ?_
      refine jw_forget [true, false, true, true] (L' := [some (.ref x0), none, none, none]) rfl ?_
      exact l_X10_findRange_b184  hq

set_option maxRecDepth 100000 in
set_option maxHeartbeats 4000000 in
theorem l_X10_findRange_b167 {hi : jw_H} {h : jw_H} {x0 : Nat} {x1 : Option Nat} {t0 : Nat} {t1 : Int32} {r : Int32} {h' : jw_H} (hq : g_X10_findRange_b167  h x0 x1 t0 t1 = some (r, h')) : jw_E 10 uX10_findRange hi 167 [some (.ref x0), some (va_rf x1), none, none] [.int t1, .ref t0] h (.inl (some (.int r))) h' := by
  unfold g_X10_findRange_b167 at hq
  obtain ⟨h1, eh1, hq⟩ := Option.bind_eq_some_iff.mp hq
  refine jw_putI (o := (some t0)) dX10_findRange_167 eh1 fl_X10_141 rfl rfl ?_
  exact l_X10_findRange_b170  hq

set_option maxRecDepth 100000 in
set_option maxHeartbeats 4000000 in
theorem l_X10_findRange_b163 {hi : jw_H} {h : jw_H} {x0 : Nat} {x1 : Option Nat} {t0 : Nat} {r : Int32} {h' : jw_H} (hq : g_X10_findRange_b163  h x0 x1 t0 = some (r, h')) : jw_E 10 uX10_findRange hi 163 [some (.ref x0), some (va_rf x1), none, none] [.ref t0] h (.inl (some (.int r))) h' := by
  unfold g_X10_findRange_b163 at hq
  refine jw_aload_n dX10_findRange_163 (o := (some x0)) rfl ?_
  obtain ⟨v1, ev1, hq⟩ := Option.bind_eq_some_iff.mp hq
  refine jw_getI (o := (some x0)) dX10_findRange_164 ev1 fl_X10_138 rfl ?_
  exact l_X10_findRange_b167  hq

set_option maxRecDepth 100000 in
set_option maxHeartbeats 4000000 in
theorem l_X10_findRange_b124 {hi : jw_H} {h : jw_H} {x0 : Nat} {x1 : Option Nat} {r : Int32} {h' : jw_H} (hq : g_X10_findRange_b124  h x0 x1 = some (r, h')) : jw_E 10 uX10_findRange hi 124 [some (.ref x0), some (va_rf x1), none, none] [] h (.inl (some (.int r))) h' := by
  unfold g_X10_findRange_b124 at hq
  refine jw_aload_n dX10_findRange_124 (o := (some x0)) rfl ?_
  refine jw_aload_n dX10_findRange_125 (o := (some x0)) rfl ?_
  refine jw_aload_n dX10_findRange_126 (o := x1) rfl ?_
  obtain ⟨v1, ev1, hq⟩ := Option.bind_eq_some_iff.mp hq
  refine jw_getR (o := x1) dX10_findRange_127 ev1 fl_X10_144 rfl ?_
  obtain ⟨a2, ea2, hq⟩ := Option.bind_eq_some_iff.mp hq
  obtain ⟨eoa2, eta2⟩ := jw_rc_spec ea2
  obtain ⟨w4, h3, ew4, hq⟩ := jw_b2_spec hq
  refine jw_callV (As := [va_rf v1]) (S := [.ref x0]) (a := a2) (v := some (.int w4)) dX10_findRange_130 mt_X10_locate in_X10_locate se_X10_locate lk_X10_147 (c_X10_locate ew4) eta2 (by decide) rfl rfl (by decide) (Nat.le_of_ble_eq_true rfl) (by cases eoa2; rfl) ?_
  obtain ⟨h5, eh5, hq⟩ := Option.bind_eq_some_iff.mp hq
  refine jw_putI (o := (some x0)) dX10_findRange_133 eh5 fl_X10_138 rfl rfl ?_
  refine jw_aload_n dX10_findRange_136 (o := (some x0)) rfl ?_
  refine jw_aload_n dX10_findRange_137 (o := x1) rfl ?_
  obtain ⟨v6, ev6, hq⟩ := Option.bind_eq_some_iff.mp hq
  refine jw_getI (o := x1) dX10_findRange_138 ev6 fl_X10_129 rfl ?_
  refine jw_iconst dX10_findRange_141 (v := (3 : Int32)) (by decide) ?_
  rcases jw_if hq with ⟨c7, hq⟩ | ⟨c7, hq⟩
  · refine jw_icmp_ne_f (tgt := 163) dX10_findRange_142 (by decide) c7 ?_
    refine jw_aload_n dX10_findRange_145 (o := (some x0)) rfl ?_
    obtain ⟨v8, ev8, hq⟩ := Option.bind_eq_some_iff.mp hq
    refine jw_getI (o := (some x0)) dX10_findRange_146 ev8 fl_X10_138 rfl ?_
    rcases jw_if hq with ⟨c9, hq⟩ | ⟨c9, hq⟩
    · refine jw_if_lt_t (tgt := 163) dX10_findRange_149 (by decide) c9 ?_
      exact l_X10_findRange_b163  hq
    · refine jw_if_lt_f (tgt := 163) dX10_findRange_149 (by decide) c9 ?_
      refine jw_aload_n dX10_findRange_152 (o := (some x0)) rfl ?_
      refine jw_aload_n dX10_findRange_153 (o := x1) rfl ?_
      obtain ⟨v10, ev10, hq⟩ := Option.bind_eq_some_iff.mp hq
      refine jw_getR (o := x1) dX10_findRange_154 ev10 fl_X10_151 rfl ?_
      obtain ⟨a11, ea11, hq⟩ := Option.bind_eq_some_iff.mp hq
      obtain ⟨eoa11, eta11⟩ := jw_rc_spec ea11
      obtain ⟨w13, h12, ew13, hq⟩ := jw_b2_spec hq
      refine jw_callV (As := [va_rf v10]) (S := [.ref x0]) (a := a11) (v := some (.int w13)) dX10_findRange_157 mt_X10_locate in_X10_locate se_X10_locate lk_X10_147 (c_X10_locate ew13) eta11 (by decide) rfl rfl (by decide) (Nat.le_of_ble_eq_true rfl) (by cases eoa11; rfl) ?_
      refine jw_goto (tgt := 167) dX10_findRange_160 (by decide) ?_
      exact l_X10_findRange_b167  hq
  · refine jw_icmp_ne_t (tgt := 163) dX10_findRange_142 (by decide) c7 ?_
    exact l_X10_findRange_b163  hq

set_option maxRecDepth 100000 in
set_option maxHeartbeats 4000000 in
theorem l_X10_findRange_b55 {hi : jw_H} {h : jw_H} {x0 : Nat} {x1 : Option Nat} {x2 : Int32} {x3 : Int32} {r : Int32} {h' : jw_H} (hq : g_X10_findRange_b55  h x0 x1 x2 x3 = some (r, h')) : jw_E 10 uX10_findRange hi 55 [some (.ref x0), some (va_rf x1), some (.int x2), some (.int x3)] [] h (.inl (some (.int r))) h' := by
  unfold g_X10_findRange_b55 at hq
  refine jw_aload_n dX10_findRange_55 (o := (some x0)) rfl ?_
  refine jw_aload_n dX10_findRange_56 (o := (some x0)) rfl ?_
  obtain ⟨v1, ev1, hq⟩ := Option.bind_eq_some_iff.mp hq
  refine jw_getR (o := (some x0)) dX10_findRange_57 ev1 fl_X10_15 rfl ?_
  obtain ⟨v2, ev2, hq⟩ := Option.bind_eq_some_iff.mp hq
  refine jw_getI (o := v1) dX10_findRange_60 ev2 fl_X10_135 rfl ?_
  obtain ⟨h3, eh3, hq⟩ := Option.bind_eq_some_iff.mp hq
  refine jw_putI (o := (some x0)) dX10_findRange_63 eh3 fl_X10_138 rfl rfl ?_
  refine jw_aload_n dX10_findRange_66 (o := (some x0)) rfl ?_
  refine jw_aload_n dX10_findRange_67 (o := (some x0)) rfl ?_
  obtain ⟨v4, ev4, hq⟩ := Option.bind_eq_some_iff.mp hq
  refine jw_getR (o := (some x0)) dX10_findRange_68 ev4 fl_X10_15 rfl ?_
  obtain ⟨v5, ev5, hq⟩ := Option.bind_eq_some_iff.mp hq
  refine jw_getI (o := v4) dX10_findRange_71 ev5 fl_X10_135 rfl ?_
  obtain ⟨h6, eh6, hq⟩ := Option.bind_eq_some_iff.mp hq
  refine jw_putI (o := (some x0)) dX10_findRange_74 eh6 fl_X10_141 rfl rfl ?_
  refine jw_iload_n dX10_findRange_77 rfl ?_
  rcases jw_if hq with ⟨c7, hq⟩ | ⟨c7, hq⟩
  · refine jw_if_eq_t (tgt := 108) dX10_findRange_78 (by decide) c7 ?_
    refine jw_aload_n dX10_findRange_108 (o := x1) rfl ?_
    obtain ⟨v8, ev8, hq⟩ := Option.bind_eq_some_iff.mp hq
    refine jw_getI (o := x1) dX10_findRange_109 ev8 fl_X10_129 rfl ?_
    refine jw_iconst dX10_findRange_112 (v := (2 : Int32)) (by decide) ?_
    rcases jw_if hq with ⟨c9, hq⟩ | ⟨c9, hq⟩
    · refine jw_icmp_eq_t (tgt := 124) dX10_findRange_113 (by decide) c9 ?_
      refine jw_forget [true, true, false, false] (L' := [some (.ref x0), some (va_rf x1), none, none]) rfl ?_
      exact l_X10_findRange_b124  hq
    · refine jw_icmp_eq_f (tgt := 124) dX10_findRange_113 (by decide) c9 ?_
      refine jw_aload_n dX10_findRange_116 (o := x1) rfl ?_
      obtain ⟨v10, ev10, hq⟩ := Option.bind_eq_some_iff.mp hq
      refine jw_getI (o := x1) dX10_findRange_117 ev10 fl_X10_129 rfl ?_
      refine jw_iconst dX10_findRange_120 (v := (3 : Int32)) (by decide) ?_
      rcases jw_if hq with ⟨c11, hq⟩ | ⟨c11, hq⟩
      · refine jw_icmp_ne_f (tgt := 170) dX10_findRange_121 (by decide) c11 ?_
        refine jw_forget [true, true, false, false] (L' := [some (.ref x0), some (va_rf x1), none, none]) rfl ?_
        exact l_X10_findRange_b124  hq
      · refine jw_icmp_ne_t (tgt := 170) dX10_findRange_121 (by decide) c11 ?_
        refine jw_forget [true, true, false, false] (L' := [some (.ref x0), some (va_rf x1), none, none]) rfl ?_
        exact l_X10_findRange_b170  hq
  · refine jw_if_eq_f (tgt := 108) dX10_findRange_78 (by decide) c7 ?_
    refine jw_aload_n dX10_findRange_81 (o := (some x0)) rfl ?_
    refine jw_iconst dX10_findRange_82 (v := (1 : Int32)) (by decide) ?_
    obtain ⟨h12, eh12, hq⟩ := Option.bind_eq_some_iff.mp hq
    refine jw_putI (o := (some x0)) dX10_findRange_83 eh12 fl_X10_138 rfl rfl ?_
    refine jw_aload_n dX10_findRange_86 (o := (some x0)) rfl ?_
    refine jw_iload_n dX10_findRange_87 rfl ?_
    obtain ⟨h13, eh13, hq⟩ := Option.bind_eq_some_iff.mp hq
    refine jw_putI (o := (some x0)) dX10_findRange_88 eh13 fl_X10_141 rfl rfl ?_
    refine jw_iload_n dX10_findRange_91 rfl ?_
    rcases jw_if hq with ⟨c14, hq⟩ | ⟨c14, hq⟩
    · refine jw_if_gt_t (tgt := 102) dX10_findRange_92 (by decide) c14 ?_
      refine jw_forget [false, false, false, false] (L' := [none, none, none, none]) rfl ?_
      exact l_X10_findRange_b102  hq
    · refine jw_if_gt_f (tgt := 102) dX10_findRange_92 (by decide) c14 ?_
      refine jw_aload_n dX10_findRange_95 (o := x1) rfl ?_
      obtain ⟨a15, ea15, hq⟩ := Option.bind_eq_some_iff.mp hq
      obtain ⟨eoa15, eta15⟩ := jw_rc_spec ea15
      obtain ⟨w17, h16, ew17, hq⟩ := jw_b2_spec hq
      refine jw_callV (As := []) (S := []) (a := a15) (v := some (.int w17)) dX10_findRange_96 mt_X5_takesAll in_X5_takesAll se_X5_takesAll lk_X10_132 (c_X5_takesAll ew17) eta15 (by decide) rfl rfl (by decide) (Nat.le_of_ble_eq_true rfl) (by cases eoa15; rfl) ?_
      rcases jw_if hq with ⟨c18, hq⟩ | ⟨c18, hq⟩
      · refine jw_if_eq_t (tgt := 106) dX10_findRange_99 (by decide) c18 ?_
        refine jw_iconst dX10_findRange_106 (v := (1 : Int32)) (by decide) ?_
        refine jw_forget [false, false, false, false] (L' := [none, none, none, none]) rfl ?_
        exact l_X10_findRange_b107  hq
      · refine jw_if_eq_f (tgt := 106) dX10_findRange_99 (by decide) c18 ?_
        refine jw_forget [false, false, false, false] (L' := [none, none, none, none]) rfl ?_
        exact l_X10_findRange_b102  hq

set_option maxRecDepth 100000 in
set_option maxHeartbeats 4000000 in
theorem l_X10_findRange_b38 {hi : jw_H} {h : jw_H} {x0 : Nat} {x1 : Option Nat} {x2 : Int32} {t0 : Int32} {r : Int32} {h' : jw_H} (hq : g_X10_findRange_b38  h x0 x1 x2 t0 = some (r, h')) : jw_E 10 uX10_findRange hi 38 [some (.ref x0), some (va_rf x1), some (.int x2), none] [.int t0] h (.inl (some (.int r))) h' := by
  unfold g_X10_findRange_b38 at hq
  refine jw_istore_n (L' := [some (.ref x0), some (va_rf x1), some (.int x2), some (.int t0)]) dX10_findRange_38 (Nat.le_of_ble_eq_true rfl) rfl ?_
  refine jw_aload_n dX10_findRange_39 (o := x1) rfl ?_
  obtain ⟨v1, ev1, hq⟩ := Option.bind_eq_some_iff.mp hq
  refine jw_getI (o := x1) dX10_findRange_40 ev1 fl_X10_129 rfl ?_
  rcases jw_if hq with ⟨c2, hq⟩ | ⟨c2, hq⟩
  · refine jw_if_ne_f (tgt := 55) dX10_findRange_43 (by decide) c2 ?_
    refine jw_aload_n dX10_findRange_46 (o := x1) rfl ?_
    obtain ⟨a3, ea3, hq⟩ := Option.bind_eq_some_iff.mp hq
    obtain ⟨eoa3, eta3⟩ := jw_rc_spec ea3
    obtain ⟨w5, h4, ew5, hq⟩ := jw_b2_spec hq
    refine jw_callV (As := []) (S := []) (a := a3) (v := some (.int w5)) dX10_findRange_47 mt_X5_steers in_X5_steers se_X5_steers lk_X10_97 (c_X5_steers ew5) eta3 (by decide) rfl rfl (by decide) (Nat.le_of_ble_eq_true rfl) (by cases eoa3; rfl) ?_
    rcases jw_if hq with ⟨c6, hq⟩ | ⟨c6, hq⟩
    · refine jw_if_eq_t (tgt := 55) dX10_findRange_50 (by decide) c6 ?_
      exact l_X10_findRange_b55  hq
    · refine jw_if_eq_f (tgt := 55) dX10_findRange_50 (by decide) c6 ?_
      refine jw_iconst dX10_findRange_53 (v := (0 : Int32)) (by decide) ?_
      cases hq
      exact jw_iret (ty := .int) dX10_findRange_54 rfl rfl
  · refine jw_if_ne_t (tgt := 55) dX10_findRange_43 (by decide) c2 ?_
    exact l_X10_findRange_b55  hq

set_option maxRecDepth 100000 in
set_option maxHeartbeats 4000000 in
theorem l_X10_findRange_b33 {hi : jw_H} {h : jw_H} {x0 : Nat} {x1 : Option Nat} {x2 : Int32} {r : Int32} {h' : jw_H} (hq : g_X10_findRange_b33  h x0 x1 x2 = some (r, h')) : jw_E 10 uX10_findRange hi 33 [some (.ref x0), some (va_rf x1), some (.int x2), none] [] h (.inl (some (.int r))) h' := by
  unfold g_X10_findRange_b33 at hq
  refine jw_iconst dX10_findRange_33 (v := (1 : Int32)) (by decide) ?_
  refine jw_goto (tgt := 38) dX10_findRange_34 (by decide) ?_
  exact l_X10_findRange_b38  hq

set_option maxRecDepth 100000 in
set_option maxHeartbeats 4000000 in
theorem l_X10_findRange_b37 {hi : jw_H} {h : jw_H} {x0 : Nat} {x1 : Option Nat} {x2 : Int32} {r : Int32} {h' : jw_H} (hq : g_X10_findRange_b37  h x0 x1 x2 = some (r, h')) : jw_E 10 uX10_findRange hi 37 [some (.ref x0), some (va_rf x1), some (.int x2), none] [] h (.inl (some (.int r))) h' := by
  unfold g_X10_findRange_b37 at hq
  refine jw_iconst dX10_findRange_37 (v := (0 : Int32)) (by decide) ?_
  exact l_X10_findRange_b38  hq

set_option maxRecDepth 100000 in
set_option maxHeartbeats 4000000 in
theorem l_X10_findRange {hi : jw_H} {h : jw_H} {x0 : Nat} {x1 : Option Nat} {r : Int32} {h' : jw_H} (hq : f_X10_findRange  h x0 x1 = some (r, h')) : jw_E 10 uX10_findRange hi 0 [some (.ref x0), some (va_rf x1), none, none] [] h (.inl (some (.int r))) h' := by
  unfold f_X10_findRange at hq
  refine jw_aload_n dX10_findRange_0 (o := (some x0)) rfl ?_
  obtain ⟨v1, ev1, hq⟩ := Option.bind_eq_some_iff.mp hq
  refine jw_getR (o := (some x0)) dX10_findRange_1 ev1 fl_X10_15 rfl ?_
  obtain ⟨v2, ev2, hq⟩ := Option.bind_eq_some_iff.mp hq
  refine jw_getR (o := v1) dX10_findRange_4 ev2 fl_X10_123 rfl ?_
  obtain ⟨v3, ev3, hq⟩ := Option.bind_eq_some_iff.mp hq
  refine jw_getI (o := v2) dX10_findRange_7 ev3 fl_X10_126 rfl ?_
  refine jw_istore_n (L' := [some (.ref x0), some (va_rf x1), some (.int v3), none]) dX10_findRange_10 (Nat.le_of_ble_eq_true rfl) ((jw_st1_of (j := 1) jw_long_rf).trans rfl) ?_
  refine jw_aload_n dX10_findRange_11 (o := x1) rfl ?_
  obtain ⟨v4, ev4, hq⟩ := Option.bind_eq_some_iff.mp hq
  refine jw_getI (o := x1) dX10_findRange_12 ev4 fl_X10_129 rfl ?_
  refine jw_iconst dX10_findRange_15 (v := (1 : Int32)) (by decide) ?_
  rcases jw_if hq with ⟨c5, hq⟩ | ⟨c5, hq⟩
  · refine jw_icmp_eq_t (tgt := 33) dX10_findRange_16 (by decide) c5 ?_
    exact l_X10_findRange_b33  hq
  · refine jw_icmp_eq_f (tgt := 33) dX10_findRange_16 (by decide) c5 ?_
    refine jw_aload_n dX10_findRange_19 (o := x1) rfl ?_
    obtain ⟨v6, ev6, hq⟩ := Option.bind_eq_some_iff.mp hq
    refine jw_getI (o := x1) dX10_findRange_20 ev6 fl_X10_129 rfl ?_
    rcases jw_if hq with ⟨c7, hq⟩ | ⟨c7, hq⟩
    · refine jw_if_ne_f (tgt := 37) dX10_findRange_23 (by decide) c7 ?_
      refine jw_aload_n dX10_findRange_26 (o := x1) rfl ?_
      obtain ⟨a8, ea8, hq⟩ := Option.bind_eq_some_iff.mp hq
      obtain ⟨eoa8, eta8⟩ := jw_rc_spec ea8
      obtain ⟨w10, h9, ew10, hq⟩ := jw_b2_spec hq
      refine jw_callV (As := []) (S := []) (a := a8) (v := some (.int w10)) dX10_findRange_27 mt_X5_takesAll in_X5_takesAll se_X5_takesAll lk_X10_132 (c_X5_takesAll ew10) eta8 (by decide) rfl rfl (by decide) (Nat.le_of_ble_eq_true rfl) (by cases eoa8; rfl) ?_
      rcases jw_if hq with ⟨c11, hq⟩ | ⟨c11, hq⟩
      · refine jw_if_eq_t (tgt := 37) dX10_findRange_30 (by decide) c11 ?_
        exact l_X10_findRange_b37  hq
      · refine jw_if_eq_f (tgt := 37) dX10_findRange_30 (by decide) c11 ?_
        exact l_X10_findRange_b33  hq
    · refine jw_if_ne_t (tgt := 37) dX10_findRange_23 (by decide) c7 ?_
      exact l_X10_findRange_b37  hq

theorem c_X10_findRange {h : jw_H} {x0 : Nat} {x1 : Option Nat} {r : Int32} {h' : jw_H} (hq : f_X10_findRange h x0 x1 = some (r, h')) : jw_Con (Cond.code yX10_findRange cX10_findRange 4 (some .int)) yX10_findRange 10 [.ref x0, va_rf x1] h (.inl (some (.int r))) h' :=
  jw_con false (plainFor_of_name (by decide +kernel)) (fun z => nomatch z) (by simp [jw_ent, jw_sl0_nil, jw_sl0_int, jw_sl0_long, jw_sl0_ref, jw_sl0_rf, jw_sl0_scr, List.replicate]) (by simp [jw_sl0_nil, jw_sl0_int, jw_sl0_long, jw_sl0_ref, jw_sl0_rf, jw_sl0_scr]) (l_X10_findRange hq)


/-! X6_placeBehind -/
noncomputable def g_X6_placeBehind_b41 (k2 : jw_H → Nat → Int32 → Int32 → Option (Int32 × jw_H)) (h : jw_H) (x0 : Nat) (x1 : Int32) (x2 : Int32) : Option (Int32 × jw_H) :=
 k2 h x0 x1 (x2 + (1 : Int32))

noncomputable def g_X6_placeBehind_b2 (k2 : jw_H → Nat → Int32 → Int32 → Option (Int32 × jw_H)) (h : jw_H) (x0 : Nat) (x1 : Int32) (x2 : Int32) : Option (Int32 × jw_H) :=
 (jw_gI h 6 (some x0) 6).bind fun v1 =>
 if v1 ≤ x2 then (some ((-1 : Int32), h))
 else ((jw_rc h 6 (some x0)).bind fun a3 =>
 jw_b2 (f_X6_orderAt h a3 x2) fun w5 h4 =>
 if w5 = none then (g_X6_placeBehind_b41 k2 h4 x0 x1 x2)
 else ((jw_gI h4 5 w5 3).bind fun v7 =>
 if v7 = (58 : Int32) then ((jw_gI h4 5 w5 5).bind fun v9 =>
 if v9 = x1 then (some ((x2 + (1 : Int32)), h4))
 else (g_X6_placeBehind_b41 k2 h4 x0 x1 x2))
 else (g_X6_placeBehind_b41 k2 h4 x0 x1 x2)))

noncomputable def f_X6_placeBehind_b2 (n : Nat) : jw_H → Nat → Int32 → Int32 → Option (Int32 × jw_H) :=
 Nat.rec (fun _ _ _ _ => none) (fun _ k2 => g_X6_placeBehind_b2 k2) n

noncomputable def f_X6_placeBehind (h : jw_H) (x0 : Nat) (x1 : Int32) : Option (Int32 × jw_H) :=
 f_X6_placeBehind_b2  jw_FU h x0 x1 (0 : Int32)

set_option maxRecDepth 100000 in
set_option maxHeartbeats 4000000 in
theorem l_X6_placeBehind_b41 {hi : jw_H} {k2 : jw_H → Nat → Int32 → Int32 → Option (Int32 × jw_H)} (hk2 : ∀ (h : jw_H) (x0 : Nat) (x1 : Int32) (x2 : Int32) (r : Int32) (h' : jw_H), k2 h x0 x1 x2 = some (r, h') → jw_E 1 uX6_placeBehind hi 2 [some (.ref x0), some (.int x1), some (.int x2), none] [] h (.inl (some (.int r))) h') {h : jw_H} {x0 : Nat} {x1 : Int32} {x2 : Int32} {r : Int32} {h' : jw_H} (hq : g_X6_placeBehind_b41 k2 h x0 x1 x2 = some (r, h')) : jw_E 1 uX6_placeBehind hi 41 [some (.ref x0), some (.int x1), some (.int x2), none] [] h (.inl (some (.int r))) h' := by
  unfold g_X6_placeBehind_b41 at hq
  refine jw_iinc (L' := [some (.ref x0), some (.int x1), some (.int (x2 + (1 : Int32))), none]) dX6_placeBehind_41 rfl (v := (1 : Int32)) (by decide) (Nat.le_of_ble_eq_true rfl) rfl ?_
  refine jw_goto (tgt := 2) dX6_placeBehind_44 (by decide) ?_
  exact hk2 _ _ _ _ _ _ hq

set_option maxRecDepth 100000 in
set_option maxHeartbeats 4000000 in
theorem l_X6_placeBehind_b2g {hi : jw_H} {k2 : jw_H → Nat → Int32 → Int32 → Option (Int32 × jw_H)} (hk2 : ∀ (h : jw_H) (x0 : Nat) (x1 : Int32) (x2 : Int32) (r : Int32) (h' : jw_H), k2 h x0 x1 x2 = some (r, h') → jw_E 1 uX6_placeBehind hi 2 [some (.ref x0), some (.int x1), some (.int x2), none] [] h (.inl (some (.int r))) h') {h : jw_H} {x0 : Nat} {x1 : Int32} {x2 : Int32} {r : Int32} {h' : jw_H} (hq : g_X6_placeBehind_b2 k2 h x0 x1 x2 = some (r, h')) : jw_E 1 uX6_placeBehind hi 2 [some (.ref x0), some (.int x1), some (.int x2), none] [] h (.inl (some (.int r))) h' := by
  unfold g_X6_placeBehind_b2 at hq
  refine jw_iload_n dX6_placeBehind_2 rfl ?_
  refine jw_aload_n dX6_placeBehind_3 (o := (some x0)) rfl ?_
  obtain ⟨v1, ev1, hq⟩ := Option.bind_eq_some_iff.mp hq
  refine jw_getI (o := (some x0)) dX6_placeBehind_4 ev1 fl_X6_30 rfl ?_
  rcases jw_if hq with ⟨c2, hq⟩ | ⟨c2, hq⟩
  · refine jw_icmp_ge_t (tgt := 47) dX6_placeBehind_7 (by decide) c2 ?_
    refine jw_iconst dX6_placeBehind_47 (v := (-1 : Int32)) (by decide) ?_
    cases hq
    exact jw_iret (ty := .int) dX6_placeBehind_48 rfl rfl
  · refine jw_icmp_ge_f (tgt := 47) dX6_placeBehind_7 (by decide) c2 ?_
    refine jw_aload_n dX6_placeBehind_10 (o := (some x0)) rfl ?_
    refine jw_iload_n dX6_placeBehind_11 rfl ?_
    obtain ⟨a3, ea3, hq⟩ := Option.bind_eq_some_iff.mp hq
    obtain ⟨eoa3, eta3⟩ := jw_rc_spec ea3
    obtain ⟨w5, h4, ew5, hq⟩ := jw_b2_spec hq
    refine jw_callV (As := [.int x2]) (S := []) (a := a3) (v := some (va_rf w5)) dX6_placeBehind_12 mt_X6_orderAt in_X6_orderAt se_X6_orderAt lk_X6_61 (c_X6_orderAt ew5) eta3 (by decide) rfl rfl (by decide) (Nat.le_of_ble_eq_true rfl) (by cases eoa3; rfl) ?_
    refine jw_astore_n (o := w5) (L' := [some (.ref x0), some (.int x1), some (.int x2), some (va_rf w5)]) dX6_placeBehind_15 (Nat.le_of_ble_eq_true rfl) rfl ?_
    refine jw_aload_n dX6_placeBehind_16 (o := w5) rfl ?_
    rcases jw_if hq with ⟨c6, hq⟩ | ⟨c6, hq⟩
    · refine jw_ifnull_t (o := w5) (tgt := 41) dX6_placeBehind_17 (by decide) c6 ?_
      refine jw_forget [true, true, true, false] (L' := [some (.ref x0), some (.int x1), some (.int x2), none]) rfl ?_
      exact l_X6_placeBehind_b41 hk2 hq
    · refine jw_ifnull_f (o := w5) dX6_placeBehind_17 c6 ?_
      refine jw_aload_n dX6_placeBehind_20 (o := w5) rfl ?_
      obtain ⟨v7, ev7, hq⟩ := Option.bind_eq_some_iff.mp hq
      refine jw_getI (o := w5) dX6_placeBehind_21 ev7 fl_X6_69 rfl ?_
      refine jw_bipush dX6_placeBehind_24 (v := (58 : Int32)) (by decide) ?_
      rcases jw_if hq with ⟨c8, hq⟩ | ⟨c8, hq⟩
      · refine jw_icmp_ne_f (tgt := 41) dX6_placeBehind_26 (by decide) c8 ?_
        refine jw_aload_n dX6_placeBehind_29 (o := w5) rfl ?_
        obtain ⟨v9, ev9, hq⟩ := Option.bind_eq_some_iff.mp hq
        refine jw_getI (o := w5) dX6_placeBehind_30 ev9 fl_X6_140 rfl ?_
        refine jw_iload_n dX6_placeBehind_33 rfl ?_
        rcases jw_if hq with ⟨c10, hq⟩ | ⟨c10, hq⟩
        · refine jw_icmp_ne_f (tgt := 41) dX6_placeBehind_34 (by decide) c10 ?_
          refine jw_iload_n dX6_placeBehind_37 rfl ?_
          refine jw_iconst dX6_placeBehind_38 (v := (1 : Int32)) (by decide) ?_
          refine jw_iadd dX6_placeBehind_39 ?_
          cases hq
          exact jw_iret (ty := .int) dX6_placeBehind_40 rfl rfl
        · refine jw_icmp_ne_t (tgt := 41) dX6_placeBehind_34 (by decide) c10 ?_
          refine jw_forget [true, true, true, false] (L' := [some (.ref x0), some (.int x1), some (.int x2), none]) rfl ?_
          exact l_X6_placeBehind_b41 hk2 hq
      · refine jw_icmp_ne_t (tgt := 41) dX6_placeBehind_26 (by decide) c8 ?_
        refine jw_forget [true, true, true, false] (L' := [some (.ref x0), some (.int x1), some (.int x2), none]) rfl ?_
        exact l_X6_placeBehind_b41 hk2 hq

theorem l_X6_placeBehind_b2 {hi : jw_H} : ∀ (n : Nat) (h : jw_H) (x0 : Nat) (x1 : Int32) (x2 : Int32) (r : Int32) (h' : jw_H), f_X6_placeBehind_b2  n h x0 x1 x2 = some (r, h') → jw_E 1 uX6_placeBehind hi 2 [some (.ref x0), some (.int x1), some (.int x2), none] [] h (.inl (some (.int r))) h' := by
  intro n
  induction n with
  | zero => intro h x0 x1 x2 r h' hq; exact nomatch hq
  | succ n ih => intro h x0 x1 x2 r h' hq; exact l_X6_placeBehind_b2g ih hq

set_option maxRecDepth 100000 in
set_option maxHeartbeats 4000000 in
theorem l_X6_placeBehind {hi : jw_H} {h : jw_H} {x0 : Nat} {x1 : Int32} {r : Int32} {h' : jw_H} (hq : f_X6_placeBehind  h x0 x1 = some (r, h')) : jw_E 1 uX6_placeBehind hi 0 [some (.ref x0), some (.int x1), none, none] [] h (.inl (some (.int r))) h' := by
  unfold f_X6_placeBehind at hq
  refine jw_iconst dX6_placeBehind_0 (v := (0 : Int32)) (by decide) ?_
  refine jw_istore_n (L' := [some (.ref x0), some (.int x1), some (.int (0 : Int32)), none]) dX6_placeBehind_1 (Nat.le_of_ble_eq_true rfl) rfl ?_
  exact l_X6_placeBehind_b2  jw_FU _ _ _ _ _ _ hq

theorem c_X6_placeBehind {h : jw_H} {x0 : Nat} {x1 : Int32} {r : Int32} {h' : jw_H} (hq : f_X6_placeBehind h x0 x1 = some (r, h')) : jw_Con (Cond.code yX6_placeBehind cX6_placeBehind 4 (some .int)) yX6_placeBehind 1 [.ref x0, .int x1] h (.inl (some (.int r))) h' :=
  jw_con false (plainFor_of_name (by decide +kernel)) (fun z => nomatch z) (by simp [jw_ent, jw_sl0_nil, jw_sl0_int, jw_sl0_long, jw_sl0_ref, jw_sl0_rf, jw_sl0_scr, List.replicate]) (by simp [jw_sl0_nil, jw_sl0_int, jw_sl0_long, jw_sl0_ref, jw_sl0_rf, jw_sl0_scr]) (l_X6_placeBehind hq)


/-! X10_steer -/
noncomputable def g_X10_steer_b189 (h : jw_H) (t0 : Int32) : Option (Int32 × jw_H) :=
 some (t0, h)

noncomputable def g_X10_steer_b175 (h : jw_H) (x0 : Nat) : Option (Int32 × jw_H) :=
 (jw_gI h 10 (some x0) 14).bind fun v1 =>
 if v1 = (-1 : Int32) then (g_X10_steer_b189  h (6 : Int32))
 else (g_X10_steer_b189  h (0 : Int32))

noncomputable def g_X10_steer_b113 (h : jw_H) (x0 : Nat) (x1 : Option Nat) : Option (Int32 × jw_H) :=
 (jw_gR h 10 (some x0) 0).bind fun v1 =>
 (jw_gI h 6 v1 6).bind fun v2 =>
 (jw_pI h 10 (some x0) 14 v2).bind fun h3 =>
 (jw_gI h3 5 x1 3).bind fun v4 =>
 if v4 = (113 : Int32) then (some ((0 : Int32), h3))
 else ((jw_gI h3 5 x1 5).bind fun v6 =>
 if v6 = (-1 : Int32) then (some ((0 : Int32), h3))
 else ((jw_gR h3 10 (some x0) 0).bind fun v8 =>
 (jw_gI h3 5 x1 5).bind fun v9 =>
 (jw_rc h3 6 v8).bind fun a10 =>
 jw_b2 (f_X6_placeBehind h3 a10 v9) fun w12 h11 =>
 (jw_pI h11 10 (some x0) 14 w12).bind fun h13 =>
 (jw_gI h13 5 x1 3).bind fun v14 =>
 if v14 = (84 : Int32) then ((jw_gR h13 10 (some x0) 5).bind fun v16 =>
 (jw_pB h13 2 v16 5 (0 : Int32)).bind fun h17 =>
 g_X10_steer_b175  h17 x0)
 else (g_X10_steer_b175  h13 x0)))

noncomputable def g_X10_steer_b37 (h : jw_H) (x0 : Nat) (x1 : Option Nat) : Option (Int32 × jw_H) :=
 (jw_gI h 5 x1 3).bind fun v1 =>
 if v1 = (78 : Int32) then ((jw_gR h 10 (some x0) 1).bind fun v10 =>
 (jw_gI h 9 v10 3).bind fun v11 =>
 (jw_gR h 10 (some x0) 1).bind fun v12 =>
 (jw_gR h 9 v12 0).bind fun v13 =>
 (jw_gI h 7 v13 2).bind fun v14 =>
 if v11 < v14 then ((jw_gR h 10 (some x0) 1).bind fun v16 =>
 (jw_gI h 9 v16 3).bind fun v17 =>
 (jw_pI h 9 v16 3 (v17 + (1 : Int32))).bind fun h18 =>
 some ((0 : Int32), h18))
 else (some ((1 : Int32), h)))
 else ((jw_gI h 5 x1 3).bind fun v3 =>
 if v3 = (58 : Int32) then (some ((0 : Int32), h))
 else ((jw_gI h 5 x1 3).bind fun v5 =>
 if v5 = (84 : Int32) then ((jw_gR h 10 (some x0) 5).bind fun v7 =>
 (jw_gI h 2 v7 5).bind fun v8 =>
 if v8 = 0 then (some ((0 : Int32), h))
 else (g_X10_steer_b113  h x0 x1))
 else (g_X10_steer_b113  h x0 x1)))

noncomputable def f_X10_steer (h : jw_H) (x0 : Nat) (x1 : Option Nat) : Option (Int32 × jw_H) :=
 (jw_gI h 5 x1 4).bind fun v1 =>
 if v1 = 0 then (g_X10_steer_b37  h x0 x1)
 else ((jw_gR h 10 (some x0) 1).bind fun v3 =>
 (jw_gI h 9 v3 3).bind fun v4 =>
 (jw_gI h 10 (some x0) 12).bind fun v5 =>
 if v4 < v5 then (some ((0 : Int32), h))
 else ((jw_gR h 10 (some x0) 1).bind fun v7 =>
 (jw_gI h 9 v7 3).bind fun v8 =>
 (jw_gI h 10 (some x0) 13).bind fun v9 =>
 if v8 ≤ v9 then (g_X10_steer_b37  h x0 x1)
 else (some ((0 : Int32), h))))

set_option maxRecDepth 100000 in
set_option maxHeartbeats 4000000 in
theorem l_X10_steer_b189 {hi : jw_H} {h : jw_H} {t0 : Int32} {r : Int32} {h' : jw_H} (hq : g_X10_steer_b189  h t0 = some (r, h')) : jw_E 2 uX10_steer hi 189 [none, none] [.int t0] h (.inl (some (.int r))) h' := by
  unfold g_X10_steer_b189 at hq
  cases hq
  exact jw_iret (ty := .int) dX10_steer_189 rfl rfl

set_option maxRecDepth 100000 in
set_option maxHeartbeats 4000000 in
theorem l_X10_steer_b175 {hi : jw_H} {h : jw_H} {x0 : Nat} {r : Int32} {h' : jw_H} (hq : g_X10_steer_b175  h x0 = some (r, h')) : jw_E 2 uX10_steer hi 175 [some (.ref x0), none] [] h (.inl (some (.int r))) h' := by
  unfold g_X10_steer_b175 at hq
  refine jw_aload_n dX10_steer_175 (o := (some x0)) rfl ?_
  obtain ⟨v1, ev1, hq⟩ := Option.bind_eq_some_iff.mp hq
  refine jw_getI (o := (some x0)) dX10_steer_176 ev1 fl_X10_90 rfl ?_
  refine jw_iconst dX10_steer_179 (v := (-1 : Int32)) (by decide) ?_
  rcases jw_if hq with ⟨c2, hq⟩ | ⟨c2, hq⟩
  · refine jw_icmp_ne_f (tgt := 188) dX10_steer_180 (by decide) c2 ?_
    refine jw_bipush dX10_steer_183 (v := (6 : Int32)) (by decide) ?_
    refine jw_goto (tgt := 189) dX10_steer_185 (by decide) ?_
    refine jw_forget [false, true] (L' := [none, none]) rfl ?_
    exact l_X10_steer_b189  hq
  · refine jw_icmp_ne_t (tgt := 188) dX10_steer_180 (by decide) c2 ?_
    refine jw_iconst dX10_steer_188 (v := (0 : Int32)) (by decide) ?_
    refine jw_forget [false, true] (L' := [none, none]) rfl ?_
    exact l_X10_steer_b189  hq

set_option maxRecDepth 100000 in
set_option maxHeartbeats 4000000 in
theorem l_X10_steer_b113 {hi : jw_H} {h : jw_H} {x0 : Nat} {x1 : Option Nat} {r : Int32} {h' : jw_H} (hq : g_X10_steer_b113  h x0 x1 = some (r, h')) : jw_E 2 uX10_steer hi 113 [some (.ref x0), some (va_rf x1)] [] h (.inl (some (.int r))) h' := by
  unfold g_X10_steer_b113 at hq
  refine jw_aload_n dX10_steer_113 (o := (some x0)) rfl ?_
  refine jw_aload_n dX10_steer_114 (o := (some x0)) rfl ?_
  obtain ⟨v1, ev1, hq⟩ := Option.bind_eq_some_iff.mp hq
  refine jw_getR (o := (some x0)) dX10_steer_115 ev1 fl_X10_9 rfl ?_
  obtain ⟨v2, ev2, hq⟩ := Option.bind_eq_some_iff.mp hq
  refine jw_getI (o := v1) dX10_steer_118 ev2 fl_X10_187 rfl ?_
  obtain ⟨h3, eh3, hq⟩ := Option.bind_eq_some_iff.mp hq
  refine jw_putI (o := (some x0)) dX10_steer_121 eh3 fl_X10_90 rfl rfl ?_
  refine jw_aload_n dX10_steer_124 (o := x1) rfl ?_
  obtain ⟨v4, ev4, hq⟩ := Option.bind_eq_some_iff.mp hq
  refine jw_getI (o := x1) dX10_steer_125 ev4 fl_X10_184 rfl ?_
  refine jw_bipush dX10_steer_128 (v := (113 : Int32)) (by decide) ?_
  rcases jw_if hq with ⟨c5, hq⟩ | ⟨c5, hq⟩
  · refine jw_icmp_eq_t (tgt := 141) dX10_steer_130 (by decide) c5 ?_
    refine jw_iconst dX10_steer_141 (v := (0 : Int32)) (by decide) ?_
    cases hq
    exact jw_iret (ty := .int) dX10_steer_142 rfl rfl
  · refine jw_icmp_eq_f (tgt := 141) dX10_steer_130 (by decide) c5 ?_
    refine jw_aload_n dX10_steer_133 (o := x1) rfl ?_
    obtain ⟨v6, ev6, hq⟩ := Option.bind_eq_some_iff.mp hq
    refine jw_getI (o := x1) dX10_steer_134 ev6 fl_X10_188 rfl ?_
    refine jw_iconst dX10_steer_137 (v := (-1 : Int32)) (by decide) ?_
    rcases jw_if hq with ⟨c7, hq⟩ | ⟨c7, hq⟩
    · refine jw_icmp_ne_f (tgt := 143) dX10_steer_138 (by decide) c7 ?_
      refine jw_iconst dX10_steer_141 (v := (0 : Int32)) (by decide) ?_
      cases hq
      exact jw_iret (ty := .int) dX10_steer_142 rfl rfl
    · refine jw_icmp_ne_t (tgt := 143) dX10_steer_138 (by decide) c7 ?_
      refine jw_aload_n dX10_steer_143 (o := (some x0)) rfl ?_
      refine jw_aload_n dX10_steer_144 (o := (some x0)) rfl ?_
      obtain ⟨v8, ev8, hq⟩ := Option.bind_eq_some_iff.mp hq
      refine jw_getR (o := (some x0)) dX10_steer_145 ev8 fl_X10_9 rfl ?_
      refine jw_aload_n dX10_steer_148 (o := x1) rfl ?_
      obtain ⟨v9, ev9, hq⟩ := Option.bind_eq_some_iff.mp hq
      refine jw_getI (o := x1) dX10_steer_149 ev9 fl_X10_188 rfl ?_
      obtain ⟨a10, ea10, hq⟩ := Option.bind_eq_some_iff.mp hq
      obtain ⟨eoa10, eta10⟩ := jw_rc_spec ea10
      obtain ⟨w12, h11, ew12, hq⟩ := jw_b2_spec hq
      refine jw_callV (As := [.int v9]) (S := [.ref x0]) (a := a10) (v := some (.int w12)) dX10_steer_152 mt_X6_placeBehind in_X6_placeBehind se_X6_placeBehind lk_X10_191 (c_X6_placeBehind ew12) eta10 (by decide) rfl rfl (by decide) (Nat.le_of_ble_eq_true rfl) (by cases eoa10; rfl) ?_
      obtain ⟨h13, eh13, hq⟩ := Option.bind_eq_some_iff.mp hq
      refine jw_putI (o := (some x0)) dX10_steer_155 eh13 fl_X10_90 rfl rfl ?_
      refine jw_aload_n dX10_steer_158 (o := x1) rfl ?_
      obtain ⟨v14, ev14, hq⟩ := Option.bind_eq_some_iff.mp hq
      refine jw_getI (o := x1) dX10_steer_159 ev14 fl_X10_184 rfl ?_
      refine jw_bipush dX10_steer_162 (v := (84 : Int32)) (by decide) ?_
      rcases jw_if hq with ⟨c15, hq⟩ | ⟨c15, hq⟩
      · refine jw_icmp_ne_f (tgt := 175) dX10_steer_164 (by decide) c15 ?_
        refine jw_aload_n dX10_steer_167 (o := (some x0)) rfl ?_
        obtain ⟨v16, ev16, hq⟩ := Option.bind_eq_some_iff.mp hq
        refine jw_getR (o := (some x0)) dX10_steer_168 ev16 fl_X10_30 rfl ?_
        refine jw_iconst dX10_steer_171 (v := (0 : Int32)) (by decide) ?_
        obtain ⟨h17, eh17, hq⟩ := Option.bind_eq_some_iff.mp hq
        refine jw_putB (o := v16) dX10_steer_172 eh17 fl_X10_67 rfl rfl ?_
        refine jw_forget [true, false] (L' := [some (.ref x0), none]) rfl ?_
        exact l_X10_steer_b175  hq
      · refine jw_icmp_ne_t (tgt := 175) dX10_steer_164 (by decide) c15 ?_
        refine jw_forget [true, false] (L' := [some (.ref x0), none]) rfl ?_
        exact l_X10_steer_b175  hq

set_option maxRecDepth 100000 in
set_option maxHeartbeats 4000000 in
theorem l_X10_steer_b37 {hi : jw_H} {h : jw_H} {x0 : Nat} {x1 : Option Nat} {r : Int32} {h' : jw_H} (hq : g_X10_steer_b37  h x0 x1 = some (r, h')) : jw_E 2 uX10_steer hi 37 [some (.ref x0), some (va_rf x1)] [] h (.inl (some (.int r))) h' := by
  unfold g_X10_steer_b37 at hq
  refine jw_aload_n dX10_steer_37 (o := x1) rfl ?_
  obtain ⟨v1, ev1, hq⟩ := Option.bind_eq_some_iff.mp hq
  refine jw_getI (o := x1) dX10_steer_38 ev1 fl_X10_184 rfl ?_
  refine jw_bipush dX10_steer_41 (v := (78 : Int32)) (by decide) ?_
  rcases jw_if hq with ⟨c2, hq⟩ | ⟨c2, hq⟩
  · refine jw_icmp_ne_f (tgt := 83) dX10_steer_43 (by decide) c2 ?_
    refine jw_aload_n dX10_steer_46 (o := (some x0)) rfl ?_
    obtain ⟨v10, ev10, hq⟩ := Option.bind_eq_some_iff.mp hq
    refine jw_getR (o := (some x0)) dX10_steer_47 ev10 fl_X10_15 rfl ?_
    obtain ⟨v11, ev11, hq⟩ := Option.bind_eq_some_iff.mp hq
    refine jw_getI (o := v10) dX10_steer_50 ev11 fl_X10_135 rfl ?_
    refine jw_aload_n dX10_steer_53 (o := (some x0)) rfl ?_
    obtain ⟨v12, ev12, hq⟩ := Option.bind_eq_some_iff.mp hq
    refine jw_getR (o := (some x0)) dX10_steer_54 ev12 fl_X10_15 rfl ?_
    obtain ⟨v13, ev13, hq⟩ := Option.bind_eq_some_iff.mp hq
    refine jw_getR (o := v12) dX10_steer_57 ev13 fl_X10_123 rfl ?_
    obtain ⟨v14, ev14, hq⟩ := Option.bind_eq_some_iff.mp hq
    refine jw_getI (o := v13) dX10_steer_60 ev14 fl_X10_126 rfl ?_
    rcases jw_if hq with ⟨c15, hq⟩ | ⟨c15, hq⟩
    · refine jw_icmp_lt_t (tgt := 68) dX10_steer_63 (by decide) c15 ?_
      refine jw_aload_n dX10_steer_68 (o := (some x0)) rfl ?_
      obtain ⟨v16, ev16, hq⟩ := Option.bind_eq_some_iff.mp hq
      refine jw_getR (o := (some x0)) dX10_steer_69 ev16 fl_X10_15 rfl ?_
      refine jw_dup dX10_steer_72 jw_cat_rf ?_
      obtain ⟨v17, ev17, hq⟩ := Option.bind_eq_some_iff.mp hq
      refine jw_getI (o := v16) dX10_steer_73 ev17 fl_X10_135 rfl ?_
      refine jw_iconst dX10_steer_76 (v := (1 : Int32)) (by decide) ?_
      refine jw_iadd dX10_steer_77 ?_
      obtain ⟨h18, eh18, hq⟩ := Option.bind_eq_some_iff.mp hq
      refine jw_putI (o := v16) dX10_steer_78 eh18 fl_X10_135 rfl rfl ?_
      refine jw_iconst dX10_steer_81 (v := (0 : Int32)) (by decide) ?_
      cases hq
      exact jw_iret (ty := .int) dX10_steer_82 rfl rfl
    · refine jw_icmp_lt_f (tgt := 68) dX10_steer_63 (by decide) c15 ?_
      refine jw_iconst dX10_steer_66 (v := (1 : Int32)) (by decide) ?_
      cases hq
      exact jw_iret (ty := .int) dX10_steer_67 rfl rfl
  · refine jw_icmp_ne_t (tgt := 83) dX10_steer_43 (by decide) c2 ?_
    refine jw_aload_n dX10_steer_83 (o := x1) rfl ?_
    obtain ⟨v3, ev3, hq⟩ := Option.bind_eq_some_iff.mp hq
    refine jw_getI (o := x1) dX10_steer_84 ev3 fl_X10_184 rfl ?_
    refine jw_bipush dX10_steer_87 (v := (58 : Int32)) (by decide) ?_
    rcases jw_if hq with ⟨c4, hq⟩ | ⟨c4, hq⟩
    · refine jw_icmp_eq_t (tgt := 111) dX10_steer_89 (by decide) c4 ?_
      refine jw_iconst dX10_steer_111 (v := (0 : Int32)) (by decide) ?_
      cases hq
      exact jw_iret (ty := .int) dX10_steer_112 rfl rfl
    · refine jw_icmp_eq_f (tgt := 111) dX10_steer_89 (by decide) c4 ?_
      refine jw_aload_n dX10_steer_92 (o := x1) rfl ?_
      obtain ⟨v5, ev5, hq⟩ := Option.bind_eq_some_iff.mp hq
      refine jw_getI (o := x1) dX10_steer_93 ev5 fl_X10_184 rfl ?_
      refine jw_bipush dX10_steer_96 (v := (84 : Int32)) (by decide) ?_
      rcases jw_if hq with ⟨c6, hq⟩ | ⟨c6, hq⟩
      · refine jw_icmp_ne_f (tgt := 113) dX10_steer_98 (by decide) c6 ?_
        refine jw_aload_n dX10_steer_101 (o := (some x0)) rfl ?_
        obtain ⟨v7, ev7, hq⟩ := Option.bind_eq_some_iff.mp hq
        refine jw_getR (o := (some x0)) dX10_steer_102 ev7 fl_X10_30 rfl ?_
        obtain ⟨v8, ev8, hq⟩ := Option.bind_eq_some_iff.mp hq
        refine jw_getI (o := v7) dX10_steer_105 ev8 fl_X10_67 rfl ?_
        rcases jw_if hq with ⟨c9, hq⟩ | ⟨c9, hq⟩
        · refine jw_if_ne_f (tgt := 113) dX10_steer_108 (by decide) c9 ?_
          refine jw_iconst dX10_steer_111 (v := (0 : Int32)) (by decide) ?_
          cases hq
          exact jw_iret (ty := .int) dX10_steer_112 rfl rfl
        · refine jw_if_ne_t (tgt := 113) dX10_steer_108 (by decide) c9 ?_
          exact l_X10_steer_b113  hq
      · refine jw_icmp_ne_t (tgt := 113) dX10_steer_98 (by decide) c6 ?_
        exact l_X10_steer_b113  hq

set_option maxRecDepth 100000 in
set_option maxHeartbeats 4000000 in
theorem l_X10_steer {hi : jw_H} {h : jw_H} {x0 : Nat} {x1 : Option Nat} {r : Int32} {h' : jw_H} (hq : f_X10_steer  h x0 x1 = some (r, h')) : jw_E 2 uX10_steer hi 0 [some (.ref x0), some (va_rf x1)] [] h (.inl (some (.int r))) h' := by
  unfold f_X10_steer at hq
  refine jw_aload_n dX10_steer_0 (o := x1) rfl ?_
  obtain ⟨v1, ev1, hq⟩ := Option.bind_eq_some_iff.mp hq
  refine jw_getI (o := x1) dX10_steer_1 ev1 fl_X10_129 rfl ?_
  rcases jw_if hq with ⟨c2, hq⟩ | ⟨c2, hq⟩
  · refine jw_if_eq_t (tgt := 37) dX10_steer_4 (by decide) c2 ?_
    exact l_X10_steer_b37  hq
  · refine jw_if_eq_f (tgt := 37) dX10_steer_4 (by decide) c2 ?_
    refine jw_aload_n dX10_steer_7 (o := (some x0)) rfl ?_
    obtain ⟨v3, ev3, hq⟩ := Option.bind_eq_some_iff.mp hq
    refine jw_getR (o := (some x0)) dX10_steer_8 ev3 fl_X10_15 rfl ?_
    obtain ⟨v4, ev4, hq⟩ := Option.bind_eq_some_iff.mp hq
    refine jw_getI (o := v3) dX10_steer_11 ev4 fl_X10_135 rfl ?_
    refine jw_aload_n dX10_steer_14 (o := (some x0)) rfl ?_
    obtain ⟨v5, ev5, hq⟩ := Option.bind_eq_some_iff.mp hq
    refine jw_getI (o := (some x0)) dX10_steer_15 ev5 fl_X10_138 rfl ?_
    rcases jw_if hq with ⟨c6, hq⟩ | ⟨c6, hq⟩
    · refine jw_icmp_lt_t (tgt := 35) dX10_steer_18 (by decide) c6 ?_
      refine jw_iconst dX10_steer_35 (v := (0 : Int32)) (by decide) ?_
      cases hq
      exact jw_iret (ty := .int) dX10_steer_36 rfl rfl
    · refine jw_icmp_lt_f (tgt := 35) dX10_steer_18 (by decide) c6 ?_
      refine jw_aload_n dX10_steer_21 (o := (some x0)) rfl ?_
      obtain ⟨v7, ev7, hq⟩ := Option.bind_eq_some_iff.mp hq
      refine jw_getR (o := (some x0)) dX10_steer_22 ev7 fl_X10_15 rfl ?_
      obtain ⟨v8, ev8, hq⟩ := Option.bind_eq_some_iff.mp hq
      refine jw_getI (o := v7) dX10_steer_25 ev8 fl_X10_135 rfl ?_
      refine jw_aload_n dX10_steer_28 (o := (some x0)) rfl ?_
      obtain ⟨v9, ev9, hq⟩ := Option.bind_eq_some_iff.mp hq
      refine jw_getI (o := (some x0)) dX10_steer_29 ev9 fl_X10_141 rfl ?_
      rcases jw_if hq with ⟨c10, hq⟩ | ⟨c10, hq⟩
      · refine jw_icmp_le_t (tgt := 37) dX10_steer_32 (by decide) c10 ?_
        exact l_X10_steer_b37  hq
      · refine jw_icmp_le_f (tgt := 37) dX10_steer_32 (by decide) c10 ?_
        refine jw_iconst dX10_steer_35 (v := (0 : Int32)) (by decide) ?_
        cases hq
        exact jw_iret (ty := .int) dX10_steer_36 rfl rfl

theorem c_X10_steer {h : jw_H} {x0 : Nat} {x1 : Option Nat} {r : Int32} {h' : jw_H} (hq : f_X10_steer h x0 x1 = some (r, h')) : jw_Con (Cond.code yX10_steer cX10_steer 2 (some .int)) yX10_steer 2 [.ref x0, va_rf x1] h (.inl (some (.int r))) h' :=
  jw_con false (plainFor_of_name (by decide +kernel)) (fun z => nomatch z) (by simp [jw_ent, jw_sl0_nil, jw_sl0_int, jw_sl0_long, jw_sl0_ref, jw_sl0_rf, jw_sl0_scr, List.replicate]) (by simp [jw_sl0_nil, jw_sl0_int, jw_sl0_long, jw_sl0_ref, jw_sl0_rf, jw_sl0_scr]) (l_X10_steer hq)


/-! X4_holds -/
noncomputable def f_X4_holds (h : jw_H) (x0 : Nat) (x1 : Option Nat) (x2 : Int32) (x3 : Int32) : Option (Int32 × jw_H) :=
 (jw_rc h 4 (some x0)).bind fun a1 =>
 jw_b2 (f_X4_load h a1 x1 x2) fun w3 h2 =>
 (jw_rc h2 4 (some x0)).bind fun a4 =>
 jw_b2 (f_X4_search h2 a4 x3 (0 : Int32) (0 : Int32)) fun w6 h5 =>
 (jw_rb w6).bind fun v7 =>
 some (w6, h5)

set_option maxRecDepth 100000 in
set_option maxHeartbeats 4000000 in
theorem l_X4_holds {hi : jw_H} {h : jw_H} {x0 : Nat} {x1 : Option Nat} {x2 : Int32} {x3 : Int32} {r : Int32} {h' : jw_H} (hq : f_X4_holds  h x0 x1 x2 x3 = some (r, h')) : jw_E 8 uX4_holds hi 0 [some (.ref x0), some (va_rf x1), some (.int x2), some (.int x3)] [] h (.inl (some (.int r))) h' := by
  unfold f_X4_holds at hq
  refine jw_aload_n dX4_holds_0 (o := (some x0)) rfl ?_
  refine jw_aload_n dX4_holds_1 (o := x1) rfl ?_
  refine jw_iload_n dX4_holds_2 rfl ?_
  obtain ⟨a1, ea1, hq⟩ := Option.bind_eq_some_iff.mp hq
  obtain ⟨eoa1, eta1⟩ := jw_rc_spec ea1
  obtain ⟨w3, h2, ew3, hq⟩ := jw_b2_spec hq
  refine jw_callV (As := [va_rf x1, .int x2]) (S := []) (a := a1) (v := none) dX4_holds_3 mt_X4_load in_X4_load se_X4_load lk_X4_53 (c_X4_load ew3) eta1 (by decide) rfl rfl (by decide) (Nat.le_of_ble_eq_true rfl) (by cases eoa1; rfl) ?_
  refine jw_aload_n dX4_holds_6 (o := (some x0)) rfl ?_
  refine jw_iload_n dX4_holds_7 rfl ?_
  refine jw_iconst dX4_holds_8 (v := (0 : Int32)) (by decide) ?_
  refine jw_iconst dX4_holds_9 (v := (0 : Int32)) (by decide) ?_
  obtain ⟨a4, ea4, hq⟩ := Option.bind_eq_some_iff.mp hq
  obtain ⟨eoa4, eta4⟩ := jw_rc_spec ea4
  obtain ⟨w6, h5, ew6, hq⟩ := jw_b2_spec hq
  refine jw_callV (As := [.int x3, .int (0 : Int32), .int (0 : Int32)]) (S := []) (a := a4) (v := some (.int w6)) dX4_holds_10 mt_X4_search in_X4_search se_X4_search lk_X4_57 (c_X4_search ew6) eta4 (by decide) rfl rfl (by decide) (Nat.le_of_ble_eq_true rfl) (by cases eoa4; rfl) ?_
  obtain ⟨v7, ev7, hq⟩ := Option.bind_eq_some_iff.mp hq
  cases hq
  exact jw_iret (ty := .boolean) dX4_holds_13 rfl (jw_rb_spec ev7)

theorem c_X4_holds {h : jw_H} {x0 : Nat} {x1 : Option Nat} {x2 : Int32} {x3 : Int32} {r : Int32} {h' : jw_H} (hq : f_X4_holds h x0 x1 x2 x3 = some (r, h')) : jw_Con (Cond.code yX4_holds cX4_holds 4 (some .boolean)) yX4_holds 8 [.ref x0, va_rf x1, .int x2, .int x3] h (.inl (some (.int r))) h' :=
  jw_con false (plainFor_of_name (by decide +kernel)) (fun z => nomatch z) (by simp [jw_ent, jw_sl0_nil, jw_sl0_int, jw_sl0_long, jw_sl0_ref, jw_sl0_rf, jw_sl0_scr, List.replicate]) (by simp [jw_sl0_nil, jw_sl0_int, jw_sl0_long, jw_sl0_ref, jw_sl0_rf, jw_sl0_scr]) (l_X4_holds hq)


/-! X10_meet -/
noncomputable def g_X10_meet_b112 (k10 : jw_H → Nat → Option Nat → Int32 → Option (Unit × jw_H)) (h : jw_H) (x0 : Nat) (x1 : Option Nat) (x2 : Int32) : Option (Unit × jw_H) :=
 k10 h x0 x1 (x2 + (1 : Int32))

noncomputable def g_X10_meet_b68 (k10 : jw_H → Nat → Option Nat → Int32 → Option (Unit × jw_H)) (h : jw_H) (x0 : Nat) (x1 : Option Nat) (x2 : Int32) (t0 : Int32) : Option (Unit × jw_H) :=
 if t0 = 0 then (g_X10_meet_b112 k10 h x0 x1 x2)
 else ((jw_gI h 10 (some x0) 11).bind fun v2 =>
 (jw_gR h 10 (some x0) 10).bind fun v3 =>
 (jw_ln h v3).bind fun v4 =>
 if v4 ≤ v2 then (g_X10_meet_b112 k10 h x0 x1 x2)
 else ((jw_gR h 10 (some x0) 10).bind fun v6 =>
 (jw_gI h 10 (some x0) 11).bind fun v7 =>
 (jw_gR h 10 (some x0) 1).bind fun v8 =>
 (jw_rc h 9 v8).bind fun a9 =>
 jw_b2 (f_X9_idOf h a9 x2) fun w11 h10 =>
 (jw_si h10 20 v6 v7 w11).bind fun h12 =>
 (jw_gI h12 10 (some x0) 11).bind fun v13 =>
 (jw_pI h12 10 (some x0) 11 (v13 + (1 : Int32))).bind fun h14 =>
 g_X10_meet_b112 k10 h14 x0 x1 x2))

noncomputable def g_X10_meet_b63 (k10 : jw_H → Nat → Option Nat → Int32 → Option (Unit × jw_H)) (h : jw_H) (x0 : Nat) (x1 : Option Nat) (x2 : Int32) : Option (Unit × jw_H) :=
 g_X10_meet_b68 k10 h x0 x1 x2 (1 : Int32)

noncomputable def g_X10_meet_b60 (k10 : jw_H → Nat → Option Nat → Int32 → Option (Unit × jw_H)) (h : jw_H) (x0 : Nat) (x1 : Option Nat) (x2 : Int32) (t0 : Int32) (t1 : Int32) : Option (Unit × jw_H) :=
 if t0 = t1 then (g_X10_meet_b63 k10 h x0 x1 x2)
 else (g_X10_meet_b68 k10 h x0 x1 x2 (0 : Int32))

noncomputable def g_X10_meet_b10 (k10 : jw_H → Nat → Option Nat → Int32 → Option (Unit × jw_H)) (h : jw_H) (x0 : Nat) (x1 : Option Nat) (x2 : Int32) : Option (Unit × jw_H) :=
 (jw_gI h 10 (some x0) 13).bind fun v1 =>
 if v1 < x2 then (some ((), h))
 else ((jw_gI h 5 x1 3).bind fun v3 =>
 if v3 = (123 : Int32) then (g_X10_meet_b63 k10 h x0 x1 x2)
 else ((jw_gR h 10 (some x0) 4).bind fun v5 =>
 (jw_gR h 10 (some x0) 1).bind fun v6 =>
 (jw_gR h 9 v6 0).bind fun v7 =>
 (jw_gI h 5 x1 6).bind fun v8 =>
 (jw_rc h 4 v5).bind fun a9 =>
 jw_b2 (f_X4_holds h a9 v7 x2 v8) fun w11 h10 =>
 (jw_gI h10 5 x1 3).bind fun v12 =>
 if v12 = (103 : Int32) then (g_X10_meet_b60 k10 h10 x0 x1 x2 w11 (1 : Int32))
 else (g_X10_meet_b60 k10 h10 x0 x1 x2 w11 (0 : Int32))))

noncomputable def f_X10_meet_b10 (n : Nat) : jw_H → Nat → Option Nat → Int32 → Option (Unit × jw_H) :=
 Nat.rec (fun _ _ _ _ => none) (fun _ k10 => g_X10_meet_b10 k10) n

noncomputable def f_X10_meet (h : jw_H) (x0 : Nat) (x1 : Option Nat) : Option (Unit × jw_H) :=
 (jw_pI h 10 (some x0) 11 (0 : Int32)).bind fun h1 =>
 (jw_gI h1 10 (some x0) 12).bind fun v2 =>
 f_X10_meet_b10  jw_FU h1 x0 x1 v2

set_option maxRecDepth 100000 in
set_option maxHeartbeats 4000000 in
theorem l_X10_meet_b112 {hi : jw_H} {k10 : jw_H → Nat → Option Nat → Int32 → Option (Unit × jw_H)} (hk10 : ∀ (h : jw_H) (x0 : Nat) (x1 : Option Nat) (x2 : Int32) (r : Unit) (h' : jw_H), k10 h x0 x1 x2 = some (r, h') → jw_E 9 uX10_meet hi 10 [some (.ref x0), some (va_rf x1), some (.int x2), none] [] h (.inl none) h') {h : jw_H} {x0 : Nat} {x1 : Option Nat} {x2 : Int32} {r : Unit} {h' : jw_H} (hq : g_X10_meet_b112 k10 h x0 x1 x2 = some (r, h')) : jw_E 9 uX10_meet hi 112 [some (.ref x0), some (va_rf x1), some (.int x2), none] [] h (.inl none) h' := by
  unfold g_X10_meet_b112 at hq
  refine jw_iinc (L' := [some (.ref x0), some (va_rf x1), some (.int (x2 + (1 : Int32))), none]) dX10_meet_112 rfl (v := (1 : Int32)) (by decide) (Nat.le_of_ble_eq_true rfl) ((jw_st1_of (j := 1) jw_long_rf).trans rfl) ?_
  refine jw_goto (tgt := 10) dX10_meet_115 (by decide) ?_
  exact hk10 _ _ _ _ _ _ hq

set_option maxRecDepth 100000 in
set_option maxHeartbeats 4000000 in
theorem l_X10_meet_b68 {hi : jw_H} {k10 : jw_H → Nat → Option Nat → Int32 → Option (Unit × jw_H)} (hk10 : ∀ (h : jw_H) (x0 : Nat) (x1 : Option Nat) (x2 : Int32) (r : Unit) (h' : jw_H), k10 h x0 x1 x2 = some (r, h') → jw_E 9 uX10_meet hi 10 [some (.ref x0), some (va_rf x1), some (.int x2), none] [] h (.inl none) h') {h : jw_H} {x0 : Nat} {x1 : Option Nat} {x2 : Int32} {t0 : Int32} {r : Unit} {h' : jw_H} (hq : g_X10_meet_b68 k10 h x0 x1 x2 t0 = some (r, h')) : jw_E 9 uX10_meet hi 68 [some (.ref x0), some (va_rf x1), some (.int x2), none] [.int t0] h (.inl none) h' := by
  unfold g_X10_meet_b68 at hq
  refine jw_istore_n (L' := [some (.ref x0), some (va_rf x1), some (.int x2), some (.int t0)]) dX10_meet_68 (Nat.le_of_ble_eq_true rfl) rfl ?_
  refine jw_iload_n dX10_meet_69 rfl ?_
  rcases jw_if hq with ⟨c1, hq⟩ | ⟨c1, hq⟩
  · refine jw_if_eq_t (tgt := 112) dX10_meet_70 (by decide) c1 ?_
    refine jw_forget [true, true, true, false] (L' := [some (.ref x0), some (va_rf x1), some (.int x2), none]) rfl ?_
    exact l_X10_meet_b112 hk10 hq
  · refine jw_if_eq_f (tgt := 112) dX10_meet_70 (by decide) c1 ?_
    refine jw_aload_n dX10_meet_73 (o := (some x0)) rfl ?_
    obtain ⟨v2, ev2, hq⟩ := Option.bind_eq_some_iff.mp hq
    refine jw_getI (o := (some x0)) dX10_meet_74 ev2 fl_X10_204 rfl ?_
    refine jw_aload_n dX10_meet_77 (o := (some x0)) rfl ?_
    obtain ⟨v3, ev3, hq⟩ := Option.bind_eq_some_iff.mp hq
    refine jw_getR (o := (some x0)) dX10_meet_78 ev3 fl_X10_57 rfl ?_
    obtain ⟨v4, ev4, hq⟩ := Option.bind_eq_some_iff.mp hq
    refine jw_alen (o := v3) dX10_meet_81 ev4 ?_
    rcases jw_if hq with ⟨c5, hq⟩ | ⟨c5, hq⟩
    · refine jw_icmp_ge_t (tgt := 112) dX10_meet_82 (by decide) c5 ?_
      refine jw_forget [true, true, true, false] (L' := [some (.ref x0), some (va_rf x1), some (.int x2), none]) rfl ?_
      exact l_X10_meet_b112 hk10 hq
    · refine jw_icmp_ge_f (tgt := 112) dX10_meet_82 (by decide) c5 ?_
      refine jw_aload_n dX10_meet_85 (o := (some x0)) rfl ?_
      obtain ⟨v6, ev6, hq⟩ := Option.bind_eq_some_iff.mp hq
      refine jw_getR (o := (some x0)) dX10_meet_86 ev6 fl_X10_57 rfl ?_
      refine jw_aload_n dX10_meet_89 (o := (some x0)) rfl ?_
      obtain ⟨v7, ev7, hq⟩ := Option.bind_eq_some_iff.mp hq
      refine jw_getI (o := (some x0)) dX10_meet_90 ev7 fl_X10_204 rfl ?_
      refine jw_aload_n dX10_meet_93 (o := (some x0)) rfl ?_
      obtain ⟨v8, ev8, hq⟩ := Option.bind_eq_some_iff.mp hq
      refine jw_getR (o := (some x0)) dX10_meet_94 ev8 fl_X10_15 rfl ?_
      refine jw_iload_n dX10_meet_97 rfl ?_
      obtain ⟨a9, ea9, hq⟩ := Option.bind_eq_some_iff.mp hq
      obtain ⟨eoa9, eta9⟩ := jw_rc_spec ea9
      obtain ⟨w11, h10, ew11, hq⟩ := jw_b2_spec hq
      refine jw_callV (As := [.int x2]) (S := [.int v7, va_rf v6]) (a := a9) (v := some (.int w11)) dX10_meet_98 mt_X9_idOf in_X9_idOf se_X9_idOf lk_X10_217 (c_X9_idOf ew11) eta9 (by decide) rfl rfl (by decide) (by simp only [List.map_cons, List.map_nil, List.sum_cons, List.sum_nil, jw_cat_rf, jw_cat_i, jw_cat_l, jw_cat_a, jw_cat_s] <;> decide) (by cases eoa9; rfl) ?_
      obtain ⟨h12, eh12, hq⟩ := Option.bind_eq_some_iff.mp hq
      refine jw_iast (o := v6) dX10_meet_101 eh12 ?_
      refine jw_aload_n dX10_meet_102 (o := (some x0)) rfl ?_
      refine jw_dup dX10_meet_103 rfl ?_
      obtain ⟨v13, ev13, hq⟩ := Option.bind_eq_some_iff.mp hq
      refine jw_getI (o := (some x0)) dX10_meet_104 ev13 fl_X10_204 rfl ?_
      refine jw_iconst dX10_meet_107 (v := (1 : Int32)) (by decide) ?_
      refine jw_iadd dX10_meet_108 ?_
      obtain ⟨h14, eh14, hq⟩ := Option.bind_eq_some_iff.mp hq
      refine jw_putI (o := (some x0)) dX10_meet_109 eh14 fl_X10_204 rfl rfl ?_
      refine jw_forget [true, true, true, false] (L' := [some (.ref x0), some (va_rf x1), some (.int x2), none]) rfl ?_
      exact l_X10_meet_b112 hk10 hq

set_option maxRecDepth 100000 in
set_option maxHeartbeats 4000000 in
theorem l_X10_meet_b63 {hi : jw_H} {k10 : jw_H → Nat → Option Nat → Int32 → Option (Unit × jw_H)} (hk10 : ∀ (h : jw_H) (x0 : Nat) (x1 : Option Nat) (x2 : Int32) (r : Unit) (h' : jw_H), k10 h x0 x1 x2 = some (r, h') → jw_E 9 uX10_meet hi 10 [some (.ref x0), some (va_rf x1), some (.int x2), none] [] h (.inl none) h') {h : jw_H} {x0 : Nat} {x1 : Option Nat} {x2 : Int32} {r : Unit} {h' : jw_H} (hq : g_X10_meet_b63 k10 h x0 x1 x2 = some (r, h')) : jw_E 9 uX10_meet hi 63 [some (.ref x0), some (va_rf x1), some (.int x2), none] [] h (.inl none) h' := by
  unfold g_X10_meet_b63 at hq
  refine jw_iconst dX10_meet_63 (v := (1 : Int32)) (by decide) ?_
  refine jw_goto (tgt := 68) dX10_meet_64 (by decide) ?_
  exact l_X10_meet_b68 hk10 hq

set_option maxRecDepth 100000 in
set_option maxHeartbeats 4000000 in
theorem l_X10_meet_b60 {hi : jw_H} {k10 : jw_H → Nat → Option Nat → Int32 → Option (Unit × jw_H)} (hk10 : ∀ (h : jw_H) (x0 : Nat) (x1 : Option Nat) (x2 : Int32) (r : Unit) (h' : jw_H), k10 h x0 x1 x2 = some (r, h') → jw_E 9 uX10_meet hi 10 [some (.ref x0), some (va_rf x1), some (.int x2), none] [] h (.inl none) h') {h : jw_H} {x0 : Nat} {x1 : Option Nat} {x2 : Int32} {t0 : Int32} {t1 : Int32} {r : Unit} {h' : jw_H} (hq : g_X10_meet_b60 k10 h x0 x1 x2 t0 t1 = some (r, h')) : jw_E 9 uX10_meet hi 60 [some (.ref x0), some (va_rf x1), some (.int x2), none] [.int t1, .int t0] h (.inl none) h' := by
  unfold g_X10_meet_b60 at hq
  rcases jw_if hq with ⟨c1, hq⟩ | ⟨c1, hq⟩
  · refine jw_icmp_ne_f (tgt := 67) dX10_meet_60 (by decide) c1 ?_
    exact l_X10_meet_b63 hk10 hq
  · refine jw_icmp_ne_t (tgt := 67) dX10_meet_60 (by decide) c1 ?_
    refine jw_iconst dX10_meet_67 (v := (0 : Int32)) (by decide) ?_
    exact l_X10_meet_b68 hk10 hq

set_option maxRecDepth 100000 in
set_option maxHeartbeats 4000000 in
theorem l_X10_meet_b10g {hi : jw_H} {k10 : jw_H → Nat → Option Nat → Int32 → Option (Unit × jw_H)} (hk10 : ∀ (h : jw_H) (x0 : Nat) (x1 : Option Nat) (x2 : Int32) (r : Unit) (h' : jw_H), k10 h x0 x1 x2 = some (r, h') → jw_E 9 uX10_meet hi 10 [some (.ref x0), some (va_rf x1), some (.int x2), none] [] h (.inl none) h') {h : jw_H} {x0 : Nat} {x1 : Option Nat} {x2 : Int32} {r : Unit} {h' : jw_H} (hq : g_X10_meet_b10 k10 h x0 x1 x2 = some (r, h')) : jw_E 9 uX10_meet hi 10 [some (.ref x0), some (va_rf x1), some (.int x2), none] [] h (.inl none) h' := by
  unfold g_X10_meet_b10 at hq
  refine jw_iload_n dX10_meet_10 rfl ?_
  refine jw_aload_n dX10_meet_11 (o := (some x0)) rfl ?_
  obtain ⟨v1, ev1, hq⟩ := Option.bind_eq_some_iff.mp hq
  refine jw_getI (o := (some x0)) dX10_meet_12 ev1 fl_X10_141 rfl ?_
  rcases jw_if hq with ⟨c2, hq⟩ | ⟨c2, hq⟩
  · refine jw_icmp_gt_t (tgt := 118) dX10_meet_15 (by decide) c2 ?_
    cases hq
    exact jw_vret dX10_meet_118 rfl
  · refine jw_icmp_gt_f (tgt := 118) dX10_meet_15 (by decide) c2 ?_
    refine jw_aload_n dX10_meet_18 (o := x1) rfl ?_
    obtain ⟨v3, ev3, hq⟩ := Option.bind_eq_some_iff.mp hq
    refine jw_getI (o := x1) dX10_meet_19 ev3 fl_X10_184 rfl ?_
    refine jw_bipush dX10_meet_22 (v := (123 : Int32)) (by decide) ?_
    rcases jw_if hq with ⟨c4, hq⟩ | ⟨c4, hq⟩
    · refine jw_icmp_eq_t (tgt := 63) dX10_meet_24 (by decide) c4 ?_
      exact l_X10_meet_b63 hk10 hq
    · refine jw_icmp_eq_f (tgt := 63) dX10_meet_24 (by decide) c4 ?_
      refine jw_aload_n dX10_meet_27 (o := (some x0)) rfl ?_
      obtain ⟨v5, ev5, hq⟩ := Option.bind_eq_some_iff.mp hq
      refine jw_getR (o := (some x0)) dX10_meet_28 ev5 fl_X10_26 rfl ?_
      refine jw_aload_n dX10_meet_31 (o := (some x0)) rfl ?_
      obtain ⟨v6, ev6, hq⟩ := Option.bind_eq_some_iff.mp hq
      refine jw_getR (o := (some x0)) dX10_meet_32 ev6 fl_X10_15 rfl ?_
      obtain ⟨v7, ev7, hq⟩ := Option.bind_eq_some_iff.mp hq
      refine jw_getR (o := v6) dX10_meet_35 ev7 fl_X10_123 rfl ?_
      refine jw_iload_n dX10_meet_38 rfl ?_
      refine jw_aload_n dX10_meet_39 (o := x1) rfl ?_
      obtain ⟨v8, ev8, hq⟩ := Option.bind_eq_some_iff.mp hq
      refine jw_getI (o := x1) dX10_meet_40 ev8 fl_X10_210 rfl ?_
      obtain ⟨a9, ea9, hq⟩ := Option.bind_eq_some_iff.mp hq
      obtain ⟨eoa9, eta9⟩ := jw_rc_spec ea9
      obtain ⟨w11, h10, ew11, hq⟩ := jw_b2_spec hq
      refine jw_callV (As := [va_rf v7, .int x2, .int v8]) (S := []) (a := a9) (v := some (.int w11)) dX10_meet_43 mt_X4_holds in_X4_holds se_X4_holds lk_X10_213 (c_X4_holds ew11) eta9 (by decide) rfl rfl (by decide) (Nat.le_of_ble_eq_true rfl) (by cases eoa9; rfl) ?_
      refine jw_aload_n dX10_meet_46 (o := x1) rfl ?_
      obtain ⟨v12, ev12, hq⟩ := Option.bind_eq_some_iff.mp hq
      refine jw_getI (o := x1) dX10_meet_47 ev12 fl_X10_184 rfl ?_
      refine jw_bipush dX10_meet_50 (v := (103 : Int32)) (by decide) ?_
      rcases jw_if hq with ⟨c13, hq⟩ | ⟨c13, hq⟩
      · refine jw_icmp_ne_f (tgt := 59) dX10_meet_52 (by decide) c13 ?_
        refine jw_iconst dX10_meet_55 (v := (1 : Int32)) (by decide) ?_
        refine jw_goto (tgt := 60) dX10_meet_56 (by decide) ?_
        exact l_X10_meet_b60 hk10 hq
      · refine jw_icmp_ne_t (tgt := 59) dX10_meet_52 (by decide) c13 ?_
        refine jw_iconst dX10_meet_59 (v := (0 : Int32)) (by decide) ?_
        exact l_X10_meet_b60 hk10 hq

theorem l_X10_meet_b10 {hi : jw_H} : ∀ (n : Nat) (h : jw_H) (x0 : Nat) (x1 : Option Nat) (x2 : Int32) (r : Unit) (h' : jw_H), f_X10_meet_b10  n h x0 x1 x2 = some (r, h') → jw_E 9 uX10_meet hi 10 [some (.ref x0), some (va_rf x1), some (.int x2), none] [] h (.inl none) h' := by
  intro n
  induction n with
  | zero => intro h x0 x1 x2 r h' hq; exact nomatch hq
  | succ n ih => intro h x0 x1 x2 r h' hq; exact l_X10_meet_b10g ih hq

set_option maxRecDepth 100000 in
set_option maxHeartbeats 4000000 in
theorem l_X10_meet {hi : jw_H} {h : jw_H} {x0 : Nat} {x1 : Option Nat} {r : Unit} {h' : jw_H} (hq : f_X10_meet  h x0 x1 = some (r, h')) : jw_E 9 uX10_meet hi 0 [some (.ref x0), some (va_rf x1), none, none] [] h (.inl none) h' := by
  unfold f_X10_meet at hq
  refine jw_aload_n dX10_meet_0 (o := (some x0)) rfl ?_
  refine jw_iconst dX10_meet_1 (v := (0 : Int32)) (by decide) ?_
  obtain ⟨h1, eh1, hq⟩ := Option.bind_eq_some_iff.mp hq
  refine jw_putI (o := (some x0)) dX10_meet_2 eh1 fl_X10_204 rfl rfl ?_
  refine jw_aload_n dX10_meet_5 (o := (some x0)) rfl ?_
  obtain ⟨v2, ev2, hq⟩ := Option.bind_eq_some_iff.mp hq
  refine jw_getI (o := (some x0)) dX10_meet_6 ev2 fl_X10_138 rfl ?_
  refine jw_istore_n (L' := [some (.ref x0), some (va_rf x1), some (.int v2), none]) dX10_meet_9 (Nat.le_of_ble_eq_true rfl) ((jw_st1_of (j := 1) jw_long_rf).trans rfl) ?_
  exact l_X10_meet_b10  jw_FU _ _ _ _ _ _ hq

theorem c_X10_meet {h : jw_H} {x0 : Nat} {x1 : Option Nat} {r : Unit} {h' : jw_H} (hq : f_X10_meet h x0 x1 = some (r, h')) : jw_Con (Cond.code yX10_meet cX10_meet 4 none) yX10_meet 9 [.ref x0, va_rf x1] h (.inl none) h' :=
  jw_con false (plainFor_of_name (by decide +kernel)) (fun z => nomatch z) (by simp [jw_ent, jw_sl0_nil, jw_sl0_int, jw_sl0_long, jw_sl0_ref, jw_sl0_rf, jw_sl0_scr, List.replicate]) (by simp [jw_sl0_nil, jw_sl0_int, jw_sl0_long, jw_sl0_ref, jw_sl0_rf, jw_sl0_scr]) (l_X10_meet hq)

