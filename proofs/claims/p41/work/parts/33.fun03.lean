/-! X10_move -/
noncomputable def g_X10_move_b150 (h : jw_H) (x0 : Nat) (x1 : Int32) (x2 : Int32) (x3 : Int32) (x4 : Int32) : Option (Int32 × jw_H) :=
 (jw_gI h 10 (some x0) 13).bind fun v1 =>
 jw_b2 (f_J9_max_7cf53 h x1 v1) fun w3 h2 =>
 (jw_gR h2 10 (some x0) 1).bind fun v4 =>
 (jw_gR h2 9 v4 0).bind fun v5 =>
 (jw_gI h2 7 v5 2).bind fun v6 =>
 (jw_rc h2 10 (some x0)).bind fun a7 =>
 jw_b2 (f_X10_lineUp h2 a7 x4 (w3 + (1 : Int32)) v6) fun w9 h8 =>
 (jw_gR h8 10 (some x0) 1).bind fun v10 =>
 (jw_gR h8 10 (some x0) 9).bind fun v11 =>
 (jw_gR h8 10 (some x0) 8).bind fun v12 =>
 (jw_rc h8 9 v10).bind fun a13 =>
 jw_b2 (f_X9_arrange h8 a13 v11 v12) fun w15 h14 =>
 (jw_gR h14 10 (some x0) 1).bind fun v16 =>
 (jw_pI h14 9 v16 3 ((x3 + x2) - (1 : Int32))).bind fun h17 =>
 some ((0 : Int32), h17)

noncomputable def g_X10_move_b56 (h : jw_H) (x0 : Nat) (x1 : Int32) (x2 : Int32) (t0 : Int32) : Option (Int32 × jw_H) :=
 (jw_gI h 10 (some x0) 12).bind fun v1 =>
 jw_b2 (f_J9_min_7cf53 h x1 (v1 - (1 : Int32))) fun w3 h2 =>
 (jw_rc h2 10 (some x0)).bind fun a4 =>
 jw_b2 (f_X10_lineUp h2 a4 (0 : Int32) (1 : Int32) w3) fun w6 h5 =>
 (jw_gI h5 10 (some x0) 12).bind fun v7 =>
 if v7 ≤ x1 then ((jw_gI h5 10 (some x0) 13).bind fun v9 =>
 (jw_rc h5 10 (some x0)).bind fun a10 =>
 jw_b2 (f_X10_lineUp h5 a10 w6 (v9 + (1 : Int32)) x1) fun w12 h11 =>
 (jw_gI h11 10 (some x0) 12).bind fun v13 =>
 (jw_gI h11 10 (some x0) 13).bind fun v14 =>
 (jw_rc h11 10 (some x0)).bind fun a15 =>
 jw_b2 (f_X10_lineUp h11 a15 w12 v13 v14) fun w17 h16 =>
 g_X10_move_b150  h16 x0 x1 x2 t0 w17)
 else ((jw_gI h5 10 (some x0) 12).bind fun v18 =>
 (jw_gI h5 10 (some x0) 13).bind fun v19 =>
 (jw_rc h5 10 (some x0)).bind fun a20 =>
 jw_b2 (f_X10_lineUp h5 a20 w6 v18 v19) fun w22 h21 =>
 (jw_gI h21 10 (some x0) 12).bind fun v23 =>
 (jw_rc h21 10 (some x0)).bind fun a24 =>
 jw_b2 (f_X10_lineUp h21 a24 w22 (x1 + (1 : Int32)) (v23 - (1 : Int32))) fun w26 h25 =>
 g_X10_move_b150  h25 x0 x1 x2 t0 w26)

noncomputable def g_X10_move_b25 (h : jw_H) (x0 : Nat) (x1 : Int32) : Option (Int32 × jw_H) :=
 (jw_gI h 10 (some x0) 13).bind fun v1 =>
 (jw_gI h 10 (some x0) 12).bind fun v2 =>
 (jw_gI h 10 (some x0) 12).bind fun v3 =>
 if v3 ≤ x1 then (g_X10_move_b56  h x0 x1 ((v1 - v2) + (1 : Int32)) ((x1 - ((v1 - v2) + (1 : Int32))) + (1 : Int32)))
 else (g_X10_move_b56  h x0 x1 ((v1 - v2) + (1 : Int32)) (x1 + (1 : Int32)))

noncomputable def f_X10_move (h : jw_H) (x0 : Nat) (x1 : Int32) : Option (Int32 × jw_H) :=
 if 0 ≤ x1 then ((jw_gI h 10 (some x0) 12).bind fun v2 =>
 if x1 < v2 then (g_X10_move_b25  h x0 x1)
 else ((jw_gI h 10 (some x0) 13).bind fun v4 =>
 if v4 ≤ x1 then (g_X10_move_b25  h x0 x1)
 else (some ((1 : Int32), h))))
 else (some ((-x1), h))

set_option maxRecDepth 100000 in
set_option maxHeartbeats 4000000 in
theorem l_X10_move_b150 {hi : jw_H} {h : jw_H} {x0 : Nat} {x1 : Int32} {x2 : Int32} {x3 : Int32} {x4 : Int32} {r : Int32} {h' : jw_H} (hq : g_X10_move_b150  h x0 x1 x2 x3 x4 = some (r, h')) : jw_E 4 uX10_move hi 150 [some (.ref x0), some (.int x1), some (.int x2), some (.int x3), some (.int x4)] [] h (.inl (some (.int r))) h' := by
  unfold g_X10_move_b150 at hq
  refine jw_aload_n dX10_move_150 (o := (some x0)) rfl ?_
  refine jw_iload dX10_move_151 rfl ?_
  refine jw_iload_n dX10_move_153 rfl ?_
  refine jw_aload_n dX10_move_154 (o := (some x0)) rfl ?_
  obtain ⟨v1, ev1, hq⟩ := Option.bind_eq_some_iff.mp hq
  refine jw_getI (o := (some x0)) dX10_move_155 ev1 fl_X10_141 rfl ?_
  obtain ⟨w3, h2, ew3, hq⟩ := jw_b2_spec hq
  refine jw_callS (As := [.int x1, .int v1]) (S := [.int x4, .ref x0]) (v := some (.int w3)) dX10_move_158 mt_J9_max_7cf53 st_J9_max_7cf53 lk_X10_310 (c_J9_max_7cf53 ew3) rfl (by decide) (Nat.le_of_ble_eq_true rfl) rfl ?_
  refine jw_iconst dX10_move_161 (v := (1 : Int32)) (by decide) ?_
  refine jw_iadd dX10_move_162 ?_
  refine jw_aload_n dX10_move_163 (o := (some x0)) rfl ?_
  obtain ⟨v4, ev4, hq⟩ := Option.bind_eq_some_iff.mp hq
  refine jw_getR (o := (some x0)) dX10_move_164 ev4 fl_X10_15 rfl ?_
  obtain ⟨v5, ev5, hq⟩ := Option.bind_eq_some_iff.mp hq
  refine jw_getR (o := v4) dX10_move_167 ev5 fl_X10_123 rfl ?_
  obtain ⟨v6, ev6, hq⟩ := Option.bind_eq_some_iff.mp hq
  refine jw_getI (o := v5) dX10_move_170 ev6 fl_X10_126 rfl ?_
  obtain ⟨a7, ea7, hq⟩ := Option.bind_eq_some_iff.mp hq
  obtain ⟨eoa7, eta7⟩ := jw_rc_spec ea7
  obtain ⟨w9, h8, ew9, hq⟩ := jw_b2_spec hq
  refine jw_callV (As := [.int x4, .int (w3 + (1 : Int32)), .int v6]) (S := []) (a := a7) (v := some (.int w9)) dX10_move_173 mt_X10_lineUp in_X10_lineUp se_X10_lineUp lk_X10_306 (c_X10_lineUp ew9) eta7 (by decide) rfl rfl (by decide) (Nat.le_of_ble_eq_true rfl) (by cases eoa7; rfl) ?_
  refine jw_pop dX10_move_176 rfl ?_
  refine jw_aload_n dX10_move_177 (o := (some x0)) rfl ?_
  obtain ⟨v10, ev10, hq⟩ := Option.bind_eq_some_iff.mp hq
  refine jw_getR (o := (some x0)) dX10_move_178 ev10 fl_X10_15 rfl ?_
  refine jw_aload_n dX10_move_181 (o := (some x0)) rfl ?_
  obtain ⟨v11, ev11, hq⟩ := Option.bind_eq_some_iff.mp hq
  refine jw_getR (o := (some x0)) dX10_move_182 ev11 fl_X10_53 rfl ?_
  refine jw_aload_n dX10_move_185 (o := (some x0)) rfl ?_
  obtain ⟨v12, ev12, hq⟩ := Option.bind_eq_some_iff.mp hq
  refine jw_getR (o := (some x0)) dX10_move_186 ev12 fl_X10_50 rfl ?_
  obtain ⟨a13, ea13, hq⟩ := Option.bind_eq_some_iff.mp hq
  obtain ⟨eoa13, eta13⟩ := jw_rc_spec ea13
  obtain ⟨w15, h14, ew15, hq⟩ := jw_b2_spec hq
  refine jw_callV (As := [va_rf v11, va_rf v12]) (S := []) (a := a13) (v := none) dX10_move_189 mt_X9_arrange in_X9_arrange se_X9_arrange lk_X10_313 (c_X9_arrange ew15) eta13 (by decide) rfl rfl (by decide) (Nat.le_of_ble_eq_true rfl) (by cases eoa13; rfl) ?_
  refine jw_aload_n dX10_move_192 (o := (some x0)) rfl ?_
  obtain ⟨v16, ev16, hq⟩ := Option.bind_eq_some_iff.mp hq
  refine jw_getR (o := (some x0)) dX10_move_193 ev16 fl_X10_15 rfl ?_
  refine jw_iload_n dX10_move_196 rfl ?_
  refine jw_iload_n dX10_move_197 rfl ?_
  refine jw_iadd dX10_move_198 ?_
  refine jw_iconst dX10_move_199 (v := (1 : Int32)) (by decide) ?_
  refine jw_isub dX10_move_200 ?_
  obtain ⟨h17, eh17, hq⟩ := Option.bind_eq_some_iff.mp hq
  refine jw_putI (o := v16) dX10_move_201 eh17 fl_X10_135 rfl rfl ?_
  refine jw_iconst dX10_move_204 (v := (0 : Int32)) (by decide) ?_
  cases hq
  exact jw_iret (ty := .int) dX10_move_205 rfl rfl

set_option maxRecDepth 100000 in
set_option maxHeartbeats 4000000 in
theorem l_X10_move_b56 {hi : jw_H} {h : jw_H} {x0 : Nat} {x1 : Int32} {x2 : Int32} {t0 : Int32} {r : Int32} {h' : jw_H} (hq : g_X10_move_b56  h x0 x1 x2 t0 = some (r, h')) : jw_E 4 uX10_move hi 56 [some (.ref x0), some (.int x1), some (.int x2), none, none] [.int t0] h (.inl (some (.int r))) h' := by
  unfold g_X10_move_b56 at hq
  refine jw_istore_n (L' := [some (.ref x0), some (.int x1), some (.int x2), some (.int t0), none]) dX10_move_56 (Nat.le_of_ble_eq_true rfl) rfl ?_
  refine jw_aload_n dX10_move_57 (o := (some x0)) rfl ?_
  refine jw_iconst dX10_move_58 (v := (0 : Int32)) (by decide) ?_
  refine jw_iconst dX10_move_59 (v := (1 : Int32)) (by decide) ?_
  refine jw_iload_n dX10_move_60 rfl ?_
  refine jw_aload_n dX10_move_61 (o := (some x0)) rfl ?_
  obtain ⟨v1, ev1, hq⟩ := Option.bind_eq_some_iff.mp hq
  refine jw_getI (o := (some x0)) dX10_move_62 ev1 fl_X10_138 rfl ?_
  refine jw_iconst dX10_move_65 (v := (1 : Int32)) (by decide) ?_
  refine jw_isub dX10_move_66 ?_
  obtain ⟨w3, h2, ew3, hq⟩ := jw_b2_spec hq
  refine jw_callS (As := [.int x1, .int (v1 - (1 : Int32))]) (S := [.int (1 : Int32), .int (0 : Int32), .ref x0]) (v := some (.int w3)) dX10_move_67 mt_J9_min_7cf53 st_J9_min_7cf53 lk_X10_154 (c_J9_min_7cf53 ew3) rfl (by decide) (Nat.le_of_ble_eq_true rfl) rfl ?_
  obtain ⟨a4, ea4, hq⟩ := Option.bind_eq_some_iff.mp hq
  obtain ⟨eoa4, eta4⟩ := jw_rc_spec ea4
  obtain ⟨w6, h5, ew6, hq⟩ := jw_b2_spec hq
  refine jw_callV (As := [.int (0 : Int32), .int (1 : Int32), .int w3]) (S := []) (a := a4) (v := some (.int w6)) dX10_move_70 mt_X10_lineUp in_X10_lineUp se_X10_lineUp lk_X10_306 (c_X10_lineUp ew6) eta4 (by decide) rfl rfl (by decide) (Nat.le_of_ble_eq_true rfl) (by cases eoa4; rfl) ?_
  refine jw_istore (L' := [some (.ref x0), some (.int x1), some (.int x2), some (.int t0), some (.int w6)]) dX10_move_73 (Nat.le_of_ble_eq_true rfl) rfl ?_
  refine jw_iload_n dX10_move_75 rfl ?_
  refine jw_aload_n dX10_move_76 (o := (some x0)) rfl ?_
  obtain ⟨v7, ev7, hq⟩ := Option.bind_eq_some_iff.mp hq
  refine jw_getI (o := (some x0)) dX10_move_77 ev7 fl_X10_138 rfl ?_
  rcases jw_if hq with ⟨c8, hq⟩ | ⟨c8, hq⟩
  · refine jw_icmp_ge_t (tgt := 119) dX10_move_80 (by decide) c8 ?_
    refine jw_aload_n dX10_move_119 (o := (some x0)) rfl ?_
    refine jw_iload dX10_move_120 rfl ?_
    refine jw_aload_n dX10_move_122 (o := (some x0)) rfl ?_
    obtain ⟨v9, ev9, hq⟩ := Option.bind_eq_some_iff.mp hq
    refine jw_getI (o := (some x0)) dX10_move_123 ev9 fl_X10_141 rfl ?_
    refine jw_iconst dX10_move_126 (v := (1 : Int32)) (by decide) ?_
    refine jw_iadd dX10_move_127 ?_
    refine jw_iload_n dX10_move_128 rfl ?_
    obtain ⟨a10, ea10, hq⟩ := Option.bind_eq_some_iff.mp hq
    obtain ⟨eoa10, eta10⟩ := jw_rc_spec ea10
    obtain ⟨w12, h11, ew12, hq⟩ := jw_b2_spec hq
    refine jw_callV (As := [.int w6, .int (v9 + (1 : Int32)), .int x1]) (S := []) (a := a10) (v := some (.int w12)) dX10_move_129 mt_X10_lineUp in_X10_lineUp se_X10_lineUp lk_X10_306 (c_X10_lineUp ew12) eta10 (by decide) rfl rfl (by decide) (Nat.le_of_ble_eq_true rfl) (by cases eoa10; rfl) ?_
    refine jw_istore (L' := [some (.ref x0), some (.int x1), some (.int x2), some (.int t0), some (.int w12)]) dX10_move_132 (Nat.le_of_ble_eq_true rfl) rfl ?_
    refine jw_aload_n dX10_move_134 (o := (some x0)) rfl ?_
    refine jw_iload dX10_move_135 rfl ?_
    refine jw_aload_n dX10_move_137 (o := (some x0)) rfl ?_
    obtain ⟨v13, ev13, hq⟩ := Option.bind_eq_some_iff.mp hq
    refine jw_getI (o := (some x0)) dX10_move_138 ev13 fl_X10_138 rfl ?_
    refine jw_aload_n dX10_move_141 (o := (some x0)) rfl ?_
    obtain ⟨v14, ev14, hq⟩ := Option.bind_eq_some_iff.mp hq
    refine jw_getI (o := (some x0)) dX10_move_142 ev14 fl_X10_141 rfl ?_
    obtain ⟨a15, ea15, hq⟩ := Option.bind_eq_some_iff.mp hq
    obtain ⟨eoa15, eta15⟩ := jw_rc_spec ea15
    obtain ⟨w17, h16, ew17, hq⟩ := jw_b2_spec hq
    refine jw_callV (As := [.int w12, .int v13, .int v14]) (S := []) (a := a15) (v := some (.int w17)) dX10_move_145 mt_X10_lineUp in_X10_lineUp se_X10_lineUp lk_X10_306 (c_X10_lineUp ew17) eta15 (by decide) rfl rfl (by decide) (Nat.le_of_ble_eq_true rfl) (by cases eoa15; rfl) ?_
    refine jw_istore (L' := [some (.ref x0), some (.int x1), some (.int x2), some (.int t0), some (.int w17)]) dX10_move_148 (Nat.le_of_ble_eq_true rfl) rfl ?_
    exact l_X10_move_b150  hq
  · refine jw_icmp_ge_f (tgt := 119) dX10_move_80 (by decide) c8 ?_
    refine jw_aload_n dX10_move_83 (o := (some x0)) rfl ?_
    refine jw_iload dX10_move_84 rfl ?_
    refine jw_aload_n dX10_move_86 (o := (some x0)) rfl ?_
    obtain ⟨v18, ev18, hq⟩ := Option.bind_eq_some_iff.mp hq
    refine jw_getI (o := (some x0)) dX10_move_87 ev18 fl_X10_138 rfl ?_
    refine jw_aload_n dX10_move_90 (o := (some x0)) rfl ?_
    obtain ⟨v19, ev19, hq⟩ := Option.bind_eq_some_iff.mp hq
    refine jw_getI (o := (some x0)) dX10_move_91 ev19 fl_X10_141 rfl ?_
    obtain ⟨a20, ea20, hq⟩ := Option.bind_eq_some_iff.mp hq
    obtain ⟨eoa20, eta20⟩ := jw_rc_spec ea20
    obtain ⟨w22, h21, ew22, hq⟩ := jw_b2_spec hq
    refine jw_callV (As := [.int w6, .int v18, .int v19]) (S := []) (a := a20) (v := some (.int w22)) dX10_move_94 mt_X10_lineUp in_X10_lineUp se_X10_lineUp lk_X10_306 (c_X10_lineUp ew22) eta20 (by decide) rfl rfl (by decide) (Nat.le_of_ble_eq_true rfl) (by cases eoa20; rfl) ?_
    refine jw_istore (L' := [some (.ref x0), some (.int x1), some (.int x2), some (.int t0), some (.int w22)]) dX10_move_97 (Nat.le_of_ble_eq_true rfl) rfl ?_
    refine jw_aload_n dX10_move_99 (o := (some x0)) rfl ?_
    refine jw_iload dX10_move_100 rfl ?_
    refine jw_iload_n dX10_move_102 rfl ?_
    refine jw_iconst dX10_move_103 (v := (1 : Int32)) (by decide) ?_
    refine jw_iadd dX10_move_104 ?_
    refine jw_aload_n dX10_move_105 (o := (some x0)) rfl ?_
    obtain ⟨v23, ev23, hq⟩ := Option.bind_eq_some_iff.mp hq
    refine jw_getI (o := (some x0)) dX10_move_106 ev23 fl_X10_138 rfl ?_
    refine jw_iconst dX10_move_109 (v := (1 : Int32)) (by decide) ?_
    refine jw_isub dX10_move_110 ?_
    obtain ⟨a24, ea24, hq⟩ := Option.bind_eq_some_iff.mp hq
    obtain ⟨eoa24, eta24⟩ := jw_rc_spec ea24
    obtain ⟨w26, h25, ew26, hq⟩ := jw_b2_spec hq
    refine jw_callV (As := [.int w22, .int (x1 + (1 : Int32)), .int (v23 - (1 : Int32))]) (S := []) (a := a24) (v := some (.int w26)) dX10_move_111 mt_X10_lineUp in_X10_lineUp se_X10_lineUp lk_X10_306 (c_X10_lineUp ew26) eta24 (by decide) rfl rfl (by decide) (Nat.le_of_ble_eq_true rfl) (by cases eoa24; rfl) ?_
    refine jw_istore (L' := [some (.ref x0), some (.int x1), some (.int x2), some (.int t0), some (.int w26)]) dX10_move_114 (Nat.le_of_ble_eq_true rfl) rfl ?_
    refine jw_goto (tgt := 150) dX10_move_116 (by decide) ?_
    exact l_X10_move_b150  hq

set_option maxRecDepth 100000 in
set_option maxHeartbeats 4000000 in
theorem l_X10_move_b25 {hi : jw_H} {h : jw_H} {x0 : Nat} {x1 : Int32} {r : Int32} {h' : jw_H} (hq : g_X10_move_b25  h x0 x1 = some (r, h')) : jw_E 4 uX10_move hi 25 [some (.ref x0), some (.int x1), none, none, none] [] h (.inl (some (.int r))) h' := by
  unfold g_X10_move_b25 at hq
  refine jw_aload_n dX10_move_25 (o := (some x0)) rfl ?_
  obtain ⟨v1, ev1, hq⟩ := Option.bind_eq_some_iff.mp hq
  refine jw_getI (o := (some x0)) dX10_move_26 ev1 fl_X10_141 rfl ?_
  refine jw_aload_n dX10_move_29 (o := (some x0)) rfl ?_
  obtain ⟨v2, ev2, hq⟩ := Option.bind_eq_some_iff.mp hq
  refine jw_getI (o := (some x0)) dX10_move_30 ev2 fl_X10_138 rfl ?_
  refine jw_isub dX10_move_33 ?_
  refine jw_iconst dX10_move_34 (v := (1 : Int32)) (by decide) ?_
  refine jw_iadd dX10_move_35 ?_
  refine jw_istore_n (L' := [some (.ref x0), some (.int x1), some (.int ((v1 - v2) + (1 : Int32))), none, none]) dX10_move_36 (Nat.le_of_ble_eq_true rfl) rfl ?_
  refine jw_iload_n dX10_move_37 rfl ?_
  refine jw_aload_n dX10_move_38 (o := (some x0)) rfl ?_
  obtain ⟨v3, ev3, hq⟩ := Option.bind_eq_some_iff.mp hq
  refine jw_getI (o := (some x0)) dX10_move_39 ev3 fl_X10_138 rfl ?_
  rcases jw_if hq with ⟨c4, hq⟩ | ⟨c4, hq⟩
  · refine jw_icmp_ge_t (tgt := 51) dX10_move_42 (by decide) c4 ?_
    refine jw_iload_n dX10_move_51 rfl ?_
    refine jw_iload_n dX10_move_52 rfl ?_
    refine jw_isub dX10_move_53 ?_
    refine jw_iconst dX10_move_54 (v := (1 : Int32)) (by decide) ?_
    refine jw_iadd dX10_move_55 ?_
    exact l_X10_move_b56  hq
  · refine jw_icmp_ge_f (tgt := 51) dX10_move_42 (by decide) c4 ?_
    refine jw_iload_n dX10_move_45 rfl ?_
    refine jw_iconst dX10_move_46 (v := (1 : Int32)) (by decide) ?_
    refine jw_iadd dX10_move_47 ?_
    refine jw_goto (tgt := 56) dX10_move_48 (by decide) ?_
    exact l_X10_move_b56  hq

set_option maxRecDepth 100000 in
set_option maxHeartbeats 4000000 in
theorem l_X10_move {hi : jw_H} {h : jw_H} {x0 : Nat} {x1 : Int32} {r : Int32} {h' : jw_H} (hq : f_X10_move  h x0 x1 = some (r, h')) : jw_E 4 uX10_move hi 0 [some (.ref x0), some (.int x1), none, none, none] [] h (.inl (some (.int r))) h' := by
  unfold f_X10_move at hq
  refine jw_iload_n dX10_move_0 rfl ?_
  rcases jw_if hq with ⟨c1, hq⟩ | ⟨c1, hq⟩
  · refine jw_if_ge_t (tgt := 7) dX10_move_1 (by decide) c1 ?_
    refine jw_iload_n dX10_move_7 rfl ?_
    refine jw_aload_n dX10_move_8 (o := (some x0)) rfl ?_
    obtain ⟨v2, ev2, hq⟩ := Option.bind_eq_some_iff.mp hq
    refine jw_getI (o := (some x0)) dX10_move_9 ev2 fl_X10_138 rfl ?_
    rcases jw_if hq with ⟨c3, hq⟩ | ⟨c3, hq⟩
    · refine jw_icmp_lt_t (tgt := 25) dX10_move_12 (by decide) c3 ?_
      exact l_X10_move_b25  hq
    · refine jw_icmp_lt_f (tgt := 25) dX10_move_12 (by decide) c3 ?_
      refine jw_iload_n dX10_move_15 rfl ?_
      refine jw_aload_n dX10_move_16 (o := (some x0)) rfl ?_
      obtain ⟨v4, ev4, hq⟩ := Option.bind_eq_some_iff.mp hq
      refine jw_getI (o := (some x0)) dX10_move_17 ev4 fl_X10_141 rfl ?_
      rcases jw_if hq with ⟨c5, hq⟩ | ⟨c5, hq⟩
      · refine jw_icmp_ge_t (tgt := 25) dX10_move_20 (by decide) c5 ?_
        exact l_X10_move_b25  hq
      · refine jw_icmp_ge_f (tgt := 25) dX10_move_20 (by decide) c5 ?_
        refine jw_iconst dX10_move_23 (v := (1 : Int32)) (by decide) ?_
        cases hq
        exact jw_iret (ty := .int) dX10_move_24 rfl rfl
  · refine jw_if_ge_f (tgt := 7) dX10_move_1 (by decide) c1 ?_
    refine jw_iload_n dX10_move_4 rfl ?_
    refine jw_ineg dX10_move_5 ?_
    cases hq
    exact jw_iret (ty := .int) dX10_move_6 rfl rfl

theorem c_X10_move {h : jw_H} {x0 : Nat} {x1 : Int32} {r : Int32} {h' : jw_H} (hq : f_X10_move h x0 x1 = some (r, h')) : jw_Con (Cond.code yX10_move cX10_move 5 (some .int)) yX10_move 4 [.ref x0, .int x1] h (.inl (some (.int r))) h' :=
  jw_con false (plainFor_of_name (by decide +kernel)) (fun z => nomatch z) (by simp [jw_ent, jw_sl0_nil, jw_sl0_int, jw_sl0_long, jw_sl0_ref, jw_sl0_rf, jw_sl0_scr, List.replicate]) (by simp [jw_sl0_nil, jw_sl0_int, jw_sl0_long, jw_sl0_ref, jw_sl0_rf, jw_sl0_scr]) (l_X10_move hq)


/-! X10_copyLines -/
noncomputable def g_X10_copyLines_b48 (k48 : jw_H → Nat → Int32 → Int32 → Int32 → Option (Int32 × jw_H)) (h : jw_H) (x0 : Nat) (x1 : Int32) (x2 : Int32) (x3 : Int32) : Option (Int32 × jw_H) :=
 if x2 < x3 then ((jw_gR h 10 (some x0) 1).bind fun v2 =>
 (jw_pI h 9 v2 3 (x1 + x2)).bind fun h3 =>
 some ((0 : Int32), h3))
 else ((jw_gR h 10 (some x0) 1).bind fun v4 =>
 (jw_gR h 9 v4 0).bind fun v5 =>
 (jw_gR h 10 (some x0) 8).bind fun v6 =>
 (jw_gR h 9 v6 0).bind fun v7 =>
 (jw_gI h 10 (some x0) 12).bind fun v8 =>
 (jw_rc h 7 v5).bind fun a9 =>
 jw_b2 (f_X7_take h a9 (x1 + x3) v7 ((v8 + x3) - (1 : Int32))) fun w11 h10 =>
 k48 h10 x0 x1 x2 (x3 + (1 : Int32)))

noncomputable def f_X10_copyLines_b48 (n : Nat) : jw_H → Nat → Int32 → Int32 → Int32 → Option (Int32 × jw_H) :=
 Nat.rec (fun _ _ _ _ _ => none) (fun _ k48 => g_X10_copyLines_b48 k48) n

noncomputable def f_X10_copyLines (h : jw_H) (x0 : Nat) (x1 : Int32) : Option (Int32 × jw_H) :=
 if 0 ≤ x1 then ((jw_gI h 10 (some x0) 13).bind fun v2 =>
 (jw_gI h 10 (some x0) 12).bind fun v3 =>
 (jw_gR h 10 (some x0) 8).bind fun v4 =>
 (jw_gR h 10 (some x0) 1).bind fun v5 =>
 (jw_rc h 9 v4).bind fun a6 =>
 jw_b2 (f_X9_copy h a6 v5) fun w8 h7 =>
 (jw_gR h7 10 (some x0) 1).bind fun v9 =>
 (jw_rc h7 9 v9).bind fun a10 =>
 jw_b2 (f_X9_open h7 a10 (x1 + (1 : Int32)) ((v2 - v3) + (1 : Int32))) fun w12 h11 =>
 if w12 = 0 then (some ((4 : Int32), h11))
 else (f_X10_copyLines_b48  jw_FU h11 x0 x1 ((v2 - v3) + (1 : Int32)) (1 : Int32)))
 else (some ((-x1), h))

set_option maxRecDepth 100000 in
set_option maxHeartbeats 4000000 in
theorem l_X10_copyLines_b48g {hi : jw_H} {k48 : jw_H → Nat → Int32 → Int32 → Int32 → Option (Int32 × jw_H)} (hk48 : ∀ (h : jw_H) (x0 : Nat) (x1 : Int32) (x2 : Int32) (x3 : Int32) (r : Int32) (h' : jw_H), k48 h x0 x1 x2 x3 = some (r, h') → jw_E 3 uX10_copyLines hi 48 [some (.ref x0), some (.int x1), some (.int x2), some (.int x3)] [] h (.inl (some (.int r))) h') {h : jw_H} {x0 : Nat} {x1 : Int32} {x2 : Int32} {x3 : Int32} {r : Int32} {h' : jw_H} (hq : g_X10_copyLines_b48 k48 h x0 x1 x2 x3 = some (r, h')) : jw_E 3 uX10_copyLines hi 48 [some (.ref x0), some (.int x1), some (.int x2), some (.int x3)] [] h (.inl (some (.int r))) h' := by
  unfold g_X10_copyLines_b48 at hq
  refine jw_iload_n dX10_copyLines_48 rfl ?_
  refine jw_iload_n dX10_copyLines_49 rfl ?_
  rcases jw_if hq with ⟨c1, hq⟩ | ⟨c1, hq⟩
  · refine jw_icmp_gt_t (tgt := 87) dX10_copyLines_50 (by decide) c1 ?_
    refine jw_aload_n dX10_copyLines_87 (o := (some x0)) rfl ?_
    obtain ⟨v2, ev2, hq⟩ := Option.bind_eq_some_iff.mp hq
    refine jw_getR (o := (some x0)) dX10_copyLines_88 ev2 fl_X10_15 rfl ?_
    refine jw_iload_n dX10_copyLines_91 rfl ?_
    refine jw_iload_n dX10_copyLines_92 rfl ?_
    refine jw_iadd dX10_copyLines_93 ?_
    obtain ⟨h3, eh3, hq⟩ := Option.bind_eq_some_iff.mp hq
    refine jw_putI (o := v2) dX10_copyLines_94 eh3 fl_X10_135 rfl rfl ?_
    refine jw_iconst dX10_copyLines_97 (v := (0 : Int32)) (by decide) ?_
    cases hq
    exact jw_iret (ty := .int) dX10_copyLines_98 rfl rfl
  · refine jw_icmp_gt_f (tgt := 87) dX10_copyLines_50 (by decide) c1 ?_
    refine jw_aload_n dX10_copyLines_53 (o := (some x0)) rfl ?_
    obtain ⟨v4, ev4, hq⟩ := Option.bind_eq_some_iff.mp hq
    refine jw_getR (o := (some x0)) dX10_copyLines_54 ev4 fl_X10_15 rfl ?_
    obtain ⟨v5, ev5, hq⟩ := Option.bind_eq_some_iff.mp hq
    refine jw_getR (o := v4) dX10_copyLines_57 ev5 fl_X10_123 rfl ?_
    refine jw_iload_n dX10_copyLines_60 rfl ?_
    refine jw_iload_n dX10_copyLines_61 rfl ?_
    refine jw_iadd dX10_copyLines_62 ?_
    refine jw_aload_n dX10_copyLines_63 (o := (some x0)) rfl ?_
    obtain ⟨v6, ev6, hq⟩ := Option.bind_eq_some_iff.mp hq
    refine jw_getR (o := (some x0)) dX10_copyLines_64 ev6 fl_X10_50 rfl ?_
    obtain ⟨v7, ev7, hq⟩ := Option.bind_eq_some_iff.mp hq
    refine jw_getR (o := v6) dX10_copyLines_67 ev7 fl_X10_123 rfl ?_
    refine jw_aload_n dX10_copyLines_70 (o := (some x0)) rfl ?_
    obtain ⟨v8, ev8, hq⟩ := Option.bind_eq_some_iff.mp hq
    refine jw_getI (o := (some x0)) dX10_copyLines_71 ev8 fl_X10_138 rfl ?_
    refine jw_iload_n dX10_copyLines_74 rfl ?_
    refine jw_iadd dX10_copyLines_75 ?_
    refine jw_iconst dX10_copyLines_76 (v := (1 : Int32)) (by decide) ?_
    refine jw_isub dX10_copyLines_77 ?_
    obtain ⟨a9, ea9, hq⟩ := Option.bind_eq_some_iff.mp hq
    obtain ⟨eoa9, eta9⟩ := jw_rc_spec ea9
    obtain ⟨w11, h10, ew11, hq⟩ := jw_b2_spec hq
    refine jw_callV (As := [.int (x1 + x3), va_rf v7, .int ((v8 + x3) - (1 : Int32))]) (S := []) (a := a9) (v := none) dX10_copyLines_78 mt_X7_take in_X7_take se_X7_take lk_X10_280 (c_X7_take ew11) eta9 (by decide) rfl rfl (by decide) (Nat.le_of_ble_eq_true rfl) (by cases eoa9; rfl) ?_
    refine jw_iinc (L' := [some (.ref x0), some (.int x1), some (.int x2), some (.int (x3 + (1 : Int32)))]) dX10_copyLines_81 rfl (v := (1 : Int32)) (by decide) (Nat.le_of_ble_eq_true rfl) rfl ?_
    refine jw_goto (tgt := 48) dX10_copyLines_84 (by decide) ?_
    exact hk48 _ _ _ _ _ _ _ hq

theorem l_X10_copyLines_b48 {hi : jw_H} : ∀ (n : Nat) (h : jw_H) (x0 : Nat) (x1 : Int32) (x2 : Int32) (x3 : Int32) (r : Int32) (h' : jw_H), f_X10_copyLines_b48  n h x0 x1 x2 x3 = some (r, h') → jw_E 3 uX10_copyLines hi 48 [some (.ref x0), some (.int x1), some (.int x2), some (.int x3)] [] h (.inl (some (.int r))) h' := by
  intro n
  induction n with
  | zero => intro h x0 x1 x2 x3 r h' hq; exact nomatch hq
  | succ n ih => intro h x0 x1 x2 x3 r h' hq; exact l_X10_copyLines_b48g ih hq

set_option maxRecDepth 100000 in
set_option maxHeartbeats 4000000 in
theorem l_X10_copyLines {hi : jw_H} {h : jw_H} {x0 : Nat} {x1 : Int32} {r : Int32} {h' : jw_H} (hq : f_X10_copyLines  h x0 x1 = some (r, h')) : jw_E 3 uX10_copyLines hi 0 [some (.ref x0), some (.int x1), none, none] [] h (.inl (some (.int r))) h' := by
  unfold f_X10_copyLines at hq
  refine jw_iload_n dX10_copyLines_0 rfl ?_
  rcases jw_if hq with ⟨c1, hq⟩ | ⟨c1, hq⟩
  · refine jw_if_ge_t (tgt := 7) dX10_copyLines_1 (by decide) c1 ?_
    refine jw_aload_n dX10_copyLines_7 (o := (some x0)) rfl ?_
    obtain ⟨v2, ev2, hq⟩ := Option.bind_eq_some_iff.mp hq
    refine jw_getI (o := (some x0)) dX10_copyLines_8 ev2 fl_X10_141 rfl ?_
    refine jw_aload_n dX10_copyLines_11 (o := (some x0)) rfl ?_
    obtain ⟨v3, ev3, hq⟩ := Option.bind_eq_some_iff.mp hq
    refine jw_getI (o := (some x0)) dX10_copyLines_12 ev3 fl_X10_138 rfl ?_
    refine jw_isub dX10_copyLines_15 ?_
    refine jw_iconst dX10_copyLines_16 (v := (1 : Int32)) (by decide) ?_
    refine jw_iadd dX10_copyLines_17 ?_
    refine jw_istore_n (L' := [some (.ref x0), some (.int x1), some (.int ((v2 - v3) + (1 : Int32))), none]) dX10_copyLines_18 (Nat.le_of_ble_eq_true rfl) rfl ?_
    refine jw_aload_n dX10_copyLines_19 (o := (some x0)) rfl ?_
    obtain ⟨v4, ev4, hq⟩ := Option.bind_eq_some_iff.mp hq
    refine jw_getR (o := (some x0)) dX10_copyLines_20 ev4 fl_X10_50 rfl ?_
    refine jw_aload_n dX10_copyLines_23 (o := (some x0)) rfl ?_
    obtain ⟨v5, ev5, hq⟩ := Option.bind_eq_some_iff.mp hq
    refine jw_getR (o := (some x0)) dX10_copyLines_24 ev5 fl_X10_15 rfl ?_
    obtain ⟨a6, ea6, hq⟩ := Option.bind_eq_some_iff.mp hq
    obtain ⟨eoa6, eta6⟩ := jw_rc_spec ea6
    obtain ⟨w8, h7, ew8, hq⟩ := jw_b2_spec hq
    refine jw_callV (As := [va_rf v5]) (S := []) (a := a6) (v := none) dX10_copyLines_27 mt_X9_copy in_X9_copy se_X9_copy lk_X10_287 (c_X9_copy ew8) eta6 (by decide) rfl rfl (by decide) (Nat.le_of_ble_eq_true rfl) (by cases eoa6; rfl) ?_
    refine jw_aload_n dX10_copyLines_30 (o := (some x0)) rfl ?_
    obtain ⟨v9, ev9, hq⟩ := Option.bind_eq_some_iff.mp hq
    refine jw_getR (o := (some x0)) dX10_copyLines_31 ev9 fl_X10_15 rfl ?_
    refine jw_iload_n dX10_copyLines_34 rfl ?_
    refine jw_iconst dX10_copyLines_35 (v := (1 : Int32)) (by decide) ?_
    refine jw_iadd dX10_copyLines_36 ?_
    refine jw_iload_n dX10_copyLines_37 rfl ?_
    obtain ⟨a10, ea10, hq⟩ := Option.bind_eq_some_iff.mp hq
    obtain ⟨eoa10, eta10⟩ := jw_rc_spec ea10
    obtain ⟨w12, h11, ew12, hq⟩ := jw_b2_spec hq
    refine jw_callV (As := [.int (x1 + (1 : Int32)), .int ((v2 - v3) + (1 : Int32))]) (S := []) (a := a10) (v := some (.int w12)) dX10_copyLines_38 mt_X9_open in_X9_open se_X9_open lk_X10_276 (c_X9_open ew12) eta10 (by decide) rfl rfl (by decide) (Nat.le_of_ble_eq_true rfl) (by cases eoa10; rfl) ?_
    rcases jw_if hq with ⟨c13, hq⟩ | ⟨c13, hq⟩
    · refine jw_if_ne_f (tgt := 46) dX10_copyLines_41 (by decide) c13 ?_
      refine jw_iconst dX10_copyLines_44 (v := (4 : Int32)) (by decide) ?_
      cases hq
      exact jw_iret (ty := .int) dX10_copyLines_45 rfl rfl
    · refine jw_if_ne_t (tgt := 46) dX10_copyLines_41 (by decide) c13 ?_
      refine jw_iconst dX10_copyLines_46 (v := (1 : Int32)) (by decide) ?_
      refine jw_istore_n (L' := [some (.ref x0), some (.int x1), some (.int ((v2 - v3) + (1 : Int32))), some (.int (1 : Int32))]) dX10_copyLines_47 (Nat.le_of_ble_eq_true rfl) rfl ?_
      exact l_X10_copyLines_b48  jw_FU _ _ _ _ _ _ _ hq
  · refine jw_if_ge_f (tgt := 7) dX10_copyLines_1 (by decide) c1 ?_
    refine jw_iload_n dX10_copyLines_4 rfl ?_
    refine jw_ineg dX10_copyLines_5 ?_
    cases hq
    exact jw_iret (ty := .int) dX10_copyLines_6 rfl rfl

theorem c_X10_copyLines {h : jw_H} {x0 : Nat} {x1 : Int32} {r : Int32} {h' : jw_H} (hq : f_X10_copyLines h x0 x1 = some (r, h')) : jw_Con (Cond.code yX10_copyLines cX10_copyLines 4 (some .int)) yX10_copyLines 3 [.ref x0, .int x1] h (.inl (some (.int r))) h' :=
  jw_con false (plainFor_of_name (by decide +kernel)) (fun z => nomatch z) (by simp [jw_ent, jw_sl0_nil, jw_sl0_int, jw_sl0_long, jw_sl0_ref, jw_sl0_rf, jw_sl0_scr, List.replicate]) (by simp [jw_sl0_nil, jw_sl0_int, jw_sl0_long, jw_sl0_ref, jw_sl0_rf, jw_sl0_scr]) (l_X10_copyLines hq)


/-! J6_compare_7cf53 -/
noncomputable def g_J6_compare_7cf53_b19 (h : jw_H) (t0 : Int32) : Option (Int32 × jw_H) :=
 some (t0, h)

noncomputable def f_J6_compare_7cf53 (h : jw_H) (x0 : Int32) (x1 : Int32) : Option (Int32 × jw_H) :=
 if x1 ≤ x0 then (if x0 = x1 then (g_J6_compare_7cf53_b19  h (0 : Int32))
 else (g_J6_compare_7cf53_b19  h (1 : Int32)))
 else (g_J6_compare_7cf53_b19  h (-1 : Int32))

set_option maxRecDepth 100000 in
set_option maxHeartbeats 4000000 in
theorem l_J6_compare_7cf53_b19 {hi : jw_H} {h : jw_H} {t0 : Int32} {r : Int32} {h' : jw_H} (hq : g_J6_compare_7cf53_b19  h t0 = some (r, h')) : jw_E 0 uJ6_compare_7cf53 hi 19 [none, none] [.int t0] h (.inl (some (.int r))) h' := by
  unfold g_J6_compare_7cf53_b19 at hq
  cases hq
  exact jw_iret (ty := .int) dJ6_compare_7cf53_19 rfl rfl

set_option maxRecDepth 100000 in
set_option maxHeartbeats 4000000 in
theorem l_J6_compare_7cf53 {hi : jw_H} {h : jw_H} {x0 : Int32} {x1 : Int32} {r : Int32} {h' : jw_H} (hq : f_J6_compare_7cf53  h x0 x1 = some (r, h')) : jw_E 0 uJ6_compare_7cf53 hi 0 [some (.int x0), some (.int x1)] [] h (.inl (some (.int r))) h' := by
  unfold f_J6_compare_7cf53 at hq
  refine jw_iload_n dJ6_compare_7cf53_0 rfl ?_
  refine jw_iload_n dJ6_compare_7cf53_1 rfl ?_
  rcases jw_if hq with ⟨c1, hq⟩ | ⟨c1, hq⟩
  · refine jw_icmp_ge_t (tgt := 9) dJ6_compare_7cf53_2 (by decide) c1 ?_
    refine jw_iload_n dJ6_compare_7cf53_9 rfl ?_
    refine jw_iload_n dJ6_compare_7cf53_10 rfl ?_
    rcases jw_if hq with ⟨c2, hq⟩ | ⟨c2, hq⟩
    · refine jw_icmp_ne_f (tgt := 18) dJ6_compare_7cf53_11 (by decide) c2 ?_
      refine jw_iconst dJ6_compare_7cf53_14 (v := (0 : Int32)) (by decide) ?_
      refine jw_goto (tgt := 19) dJ6_compare_7cf53_15 (by decide) ?_
      refine jw_forget [false, false] (L' := [none, none]) rfl ?_
      exact l_J6_compare_7cf53_b19  hq
    · refine jw_icmp_ne_t (tgt := 18) dJ6_compare_7cf53_11 (by decide) c2 ?_
      refine jw_iconst dJ6_compare_7cf53_18 (v := (1 : Int32)) (by decide) ?_
      refine jw_forget [false, false] (L' := [none, none]) rfl ?_
      exact l_J6_compare_7cf53_b19  hq
  · refine jw_icmp_ge_f (tgt := 9) dJ6_compare_7cf53_2 (by decide) c1 ?_
    refine jw_iconst dJ6_compare_7cf53_5 (v := (-1 : Int32)) (by decide) ?_
    refine jw_goto (tgt := 19) dJ6_compare_7cf53_6 (by decide) ?_
    refine jw_forget [false, false] (L' := [none, none]) rfl ?_
    exact l_J6_compare_7cf53_b19  hq

theorem c_J6_compare_7cf53 {h : jw_H} {x0 : Int32} {x1 : Int32} {r : Int32} {h' : jw_H} (hq : f_J6_compare_7cf53 h x0 x1 = some (r, h')) : jw_Con (Cond.code yJ6_compare_7cf53 cJ6_compare_7cf53 2 (some .int)) yJ6_compare_7cf53 0 [.int x0, .int x1] h (.inl (some (.int r))) h' :=
  jw_con false (plainFor_of_name (by decide +kernel)) (fun z => nomatch z) (by simp [jw_ent, jw_sl0_nil, jw_sl0_int, jw_sl0_long, jw_sl0_ref, jw_sl0_rf, jw_sl0_scr, List.replicate]) (by simp [jw_sl0_nil, jw_sl0_int, jw_sl0_long, jw_sl0_ref, jw_sl0_rf, jw_sl0_scr]) (l_J6_compare_7cf53 hq)


/-! X7_compareFrom -/
noncomputable def g_X7_compareFrom_b3 (k3 : jw_H → Nat → Int32 → Int32 → Int32 → Option (Int32 × jw_H)) (h : jw_H) (x0 : Nat) (x2 : Int32) (x3 : Int32) (x4 : Int32) : Option (Int32 × jw_H) :=
 if (30 : Int32) ≤ x4 then (some ((0 : Int32), h))
 else ((jw_rc h 7 (some x0)).bind fun a2 =>
 jw_b2 (f_X7_signAt h a2 x2 x4) fun w4 h3 =>
 (jw_rc h3 7 (some x0)).bind fun a5 =>
 jw_b2 (f_X7_signAt h3 a5 x3 x4) fun w7 h6 =>
 if w4 = w7 then (k3 h6 x0 x2 x3 (x4 + (1 : Int32)))
 else (jw_b2 (f_J6_compare_7cf53 h6 w4 w7) fun w10 h9 =>
 some (w10, h9)))

noncomputable def f_X7_compareFrom_b3 (n : Nat) : jw_H → Nat → Int32 → Int32 → Int32 → Option (Int32 × jw_H) :=
 Nat.rec (fun _ _ _ _ _ => none) (fun _ k3 => g_X7_compareFrom_b3 k3) n

noncomputable def f_X7_compareFrom (h : jw_H) (x0 : Nat) (x1 : Int32) (x2 : Int32) (x3 : Int32) : Option (Int32 × jw_H) :=
 f_X7_compareFrom_b3  jw_FU h x0 x2 x3 x1

set_option maxRecDepth 100000 in
set_option maxHeartbeats 4000000 in
theorem l_X7_compareFrom_b3g {hi : jw_H} {k3 : jw_H → Nat → Int32 → Int32 → Int32 → Option (Int32 × jw_H)} (hk3 : ∀ (h : jw_H) (x0 : Nat) (x2 : Int32) (x3 : Int32) (x4 : Int32) (r : Int32) (h' : jw_H), k3 h x0 x2 x3 x4 = some (r, h') → jw_E 1 uX7_compareFrom hi 3 [some (.ref x0), none, some (.int x2), some (.int x3), some (.int x4), none, none] [] h (.inl (some (.int r))) h') {h : jw_H} {x0 : Nat} {x2 : Int32} {x3 : Int32} {x4 : Int32} {r : Int32} {h' : jw_H} (hq : g_X7_compareFrom_b3 k3 h x0 x2 x3 x4 = some (r, h')) : jw_E 1 uX7_compareFrom hi 3 [some (.ref x0), none, some (.int x2), some (.int x3), some (.int x4), none, none] [] h (.inl (some (.int r))) h' := by
  unfold g_X7_compareFrom_b3 at hq
  refine jw_iload dX7_compareFrom_3 rfl ?_
  refine jw_bipush dX7_compareFrom_5 (v := (30 : Int32)) (by decide) ?_
  rcases jw_if hq with ⟨c1, hq⟩ | ⟨c1, hq⟩
  · refine jw_icmp_ge_t (tgt := 49) dX7_compareFrom_7 (by decide) c1 ?_
    refine jw_iconst dX7_compareFrom_49 (v := (0 : Int32)) (by decide) ?_
    cases hq
    exact jw_iret (ty := .int) dX7_compareFrom_50 rfl rfl
  · refine jw_icmp_ge_f (tgt := 49) dX7_compareFrom_7 (by decide) c1 ?_
    refine jw_aload_n dX7_compareFrom_10 (o := (some x0)) rfl ?_
    refine jw_iload_n dX7_compareFrom_11 rfl ?_
    refine jw_iload dX7_compareFrom_12 rfl ?_
    obtain ⟨a2, ea2, hq⟩ := Option.bind_eq_some_iff.mp hq
    obtain ⟨eoa2, eta2⟩ := jw_rc_spec ea2
    obtain ⟨w4, h3, ew4, hq⟩ := jw_b2_spec hq
    refine jw_callV (As := [.int x2, .int x4]) (S := []) (a := a2) (v := some (.int w4)) dX7_compareFrom_14 mt_X7_signAt in_X7_signAt se_X7_signAt lk_X7_54 (c_X7_signAt ew4) eta2 (by decide) rfl rfl (by decide) (Nat.le_of_ble_eq_true rfl) (by cases eoa2; rfl) ?_
    refine jw_istore (L' := [some (.ref x0), none, some (.int x2), some (.int x3), some (.int x4), some (.int w4), none]) dX7_compareFrom_17 (Nat.le_of_ble_eq_true rfl) rfl ?_
    refine jw_aload_n dX7_compareFrom_19 (o := (some x0)) rfl ?_
    refine jw_iload_n dX7_compareFrom_20 rfl ?_
    refine jw_iload dX7_compareFrom_21 rfl ?_
    obtain ⟨a5, ea5, hq⟩ := Option.bind_eq_some_iff.mp hq
    obtain ⟨eoa5, eta5⟩ := jw_rc_spec ea5
    obtain ⟨w7, h6, ew7, hq⟩ := jw_b2_spec hq
    refine jw_callV (As := [.int x3, .int x4]) (S := []) (a := a5) (v := some (.int w7)) dX7_compareFrom_23 mt_X7_signAt in_X7_signAt se_X7_signAt lk_X7_54 (c_X7_signAt ew7) eta5 (by decide) rfl rfl (by decide) (Nat.le_of_ble_eq_true rfl) (by cases eoa5; rfl) ?_
    refine jw_istore (L' := [some (.ref x0), none, some (.int x2), some (.int x3), some (.int x4), some (.int w4), some (.int w7)]) dX7_compareFrom_26 (Nat.le_of_ble_eq_true rfl) rfl ?_
    refine jw_iload dX7_compareFrom_28 rfl ?_
    refine jw_iload dX7_compareFrom_30 rfl ?_
    rcases jw_if hq with ⟨c8, hq⟩ | ⟨c8, hq⟩
    · refine jw_icmp_eq_t (tgt := 43) dX7_compareFrom_32 (by decide) c8 ?_
      refine jw_iinc (L' := [some (.ref x0), none, some (.int x2), some (.int x3), some (.int (x4 + (1 : Int32))), some (.int w4), some (.int w7)]) dX7_compareFrom_43 rfl (v := (1 : Int32)) (by decide) (Nat.le_of_ble_eq_true rfl) rfl ?_
      refine jw_goto (tgt := 3) dX7_compareFrom_46 (by decide) ?_
      refine jw_forget [true, true, true, true, true, false, false] (L' := [some (.ref x0), none, some (.int x2), some (.int x3), some (.int (x4 + (1 : Int32))), none, none]) rfl ?_
      exact hk3 _ _ _ _ _ _ _ hq
    · refine jw_icmp_eq_f (tgt := 43) dX7_compareFrom_32 (by decide) c8 ?_
      refine jw_iload dX7_compareFrom_35 rfl ?_
      refine jw_iload dX7_compareFrom_37 rfl ?_
      obtain ⟨w10, h9, ew10, hq⟩ := jw_b2_spec hq
      refine jw_callS (As := [.int w4, .int w7]) (S := []) (v := some (.int w10)) dX7_compareFrom_39 mt_J6_compare_7cf53 st_J6_compare_7cf53 lk_X7_57 (c_J6_compare_7cf53 ew10) rfl (by decide) (Nat.le_of_ble_eq_true rfl) rfl ?_
      cases hq
      exact jw_iret (ty := .int) dX7_compareFrom_42 rfl rfl

theorem l_X7_compareFrom_b3 {hi : jw_H} : ∀ (n : Nat) (h : jw_H) (x0 : Nat) (x2 : Int32) (x3 : Int32) (x4 : Int32) (r : Int32) (h' : jw_H), f_X7_compareFrom_b3  n h x0 x2 x3 x4 = some (r, h') → jw_E 1 uX7_compareFrom hi 3 [some (.ref x0), none, some (.int x2), some (.int x3), some (.int x4), none, none] [] h (.inl (some (.int r))) h' := by
  intro n
  induction n with
  | zero => intro h x0 x2 x3 x4 r h' hq; exact nomatch hq
  | succ n ih => intro h x0 x2 x3 x4 r h' hq; exact l_X7_compareFrom_b3g ih hq

set_option maxRecDepth 100000 in
set_option maxHeartbeats 4000000 in
theorem l_X7_compareFrom {hi : jw_H} {h : jw_H} {x0 : Nat} {x1 : Int32} {x2 : Int32} {x3 : Int32} {r : Int32} {h' : jw_H} (hq : f_X7_compareFrom  h x0 x1 x2 x3 = some (r, h')) : jw_E 1 uX7_compareFrom hi 0 [some (.ref x0), some (.int x1), some (.int x2), some (.int x3), none, none, none] [] h (.inl (some (.int r))) h' := by
  unfold f_X7_compareFrom at hq
  refine jw_iload_n dX7_compareFrom_0 rfl ?_
  refine jw_istore (L' := [some (.ref x0), some (.int x1), some (.int x2), some (.int x3), some (.int x1), none, none]) dX7_compareFrom_1 (Nat.le_of_ble_eq_true rfl) rfl ?_
  refine jw_forget [true, false, true, true, true, true, true] (L' := [some (.ref x0), none, some (.int x2), some (.int x3), some (.int x1), none, none]) rfl ?_
  exact l_X7_compareFrom_b3  jw_FU _ _ _ _ _ _ _ hq

theorem c_X7_compareFrom {h : jw_H} {x0 : Nat} {x1 : Int32} {x2 : Int32} {x3 : Int32} {r : Int32} {h' : jw_H} (hq : f_X7_compareFrom h x0 x1 x2 x3 = some (r, h')) : jw_Con (Cond.code yX7_compareFrom cX7_compareFrom 7 (some .int)) yX7_compareFrom 1 [.ref x0, .int x1, .int x2, .int x3] h (.inl (some (.int r))) h' :=
  jw_con false (plainFor_of_name (by decide +kernel)) (fun z => nomatch z) (by simp [jw_ent, jw_sl0_nil, jw_sl0_int, jw_sl0_long, jw_sl0_ref, jw_sl0_rf, jw_sl0_scr, List.replicate]) (by simp [jw_sl0_nil, jw_sl0_int, jw_sl0_long, jw_sl0_ref, jw_sl0_rf, jw_sl0_scr]) (l_X7_compareFrom hq)


/-! X10_sort -/
noncomputable def g_X10_sort_b146 (k24 : jw_H → Nat → Int32 → Int32 → Int32 → Option (Int32 × jw_H)) (h : jw_H) (x0 : Nat) (x1 : Int32) (x2 : Int32) (x3 : Int32) : Option (Int32 × jw_H) :=
 k24 h x0 x1 x2 (x3 + (1 : Int32))

noncomputable def g_X10_sort_b118 (k44 : jw_H → Nat → Int32 → Int32 → Int32 → Int32 → Option (Int32 × jw_H)) (h : jw_H) (x0 : Nat) (x1 : Int32) (x2 : Int32) (x3 : Int32) (x4 : Int32) (x5 : Int32) (x6 : Int32) : Option (Int32 × jw_H) :=
 (jw_gR h 10 (some x0) 9).bind fun v1 =>
 (jw_si h 20 v1 (x4 - (1 : Int32)) x6).bind fun h2 =>
 (jw_gR h2 10 (some x0) 9).bind fun v3 =>
 (jw_si h2 20 v3 (x4 - (2 : Int32)) x5).bind fun h4 =>
 k44 h4 x0 x1 x2 x3 (x4 + (-1 : Int32))

noncomputable def g_X10_sort_b44 (k24 : jw_H → Nat → Int32 → Int32 → Int32 → Option (Int32 × jw_H)) (k44 : jw_H → Nat → Int32 → Int32 → Int32 → Int32 → Option (Int32 × jw_H)) (h : jw_H) (x0 : Nat) (x1 : Int32) (x2 : Int32) (x3 : Int32) (x4 : Int32) : Option (Int32 × jw_H) :=
 (jw_gI h 10 (some x0) 12).bind fun v1 =>
 if x4 ≤ v1 then (g_X10_sort_b146 k24 h x0 x1 x2 x3)
 else (if x4 ≤ (1 : Int32) then (g_X10_sort_b146 k24 h x0 x1 x2 x3)
 else ((jw_gR h 10 (some x0) 9).bind fun v4 =>
 (jw_ai h 20 v4 (x4 - (1 : Int32))).bind fun v5 =>
 (jw_gR h 10 (some x0) 9).bind fun v6 =>
 (jw_ai h 20 v6 (x4 - (2 : Int32))).bind fun v7 =>
 (jw_gR h 10 (some x0) 1).bind fun v8 =>
 (jw_gR h 9 v8 0).bind fun v9 =>
 (jw_rc h 7 v9).bind fun a10 =>
 jw_b2 (f_X7_compareFrom h a10 x1 v7 v5) fun w12 h11 =>
 if x2 = 0 then (if 0 < w12 then (g_X10_sort_b118 k44 h11 x0 x1 x2 x3 x4 v5 v7)
 else (g_X10_sort_b146 k24 h11 x0 x1 x2 x3))
 else (if w12 < 0 then (g_X10_sort_b118 k44 h11 x0 x1 x2 x3 x4 v5 v7)
 else (g_X10_sort_b146 k24 h11 x0 x1 x2 x3))))

noncomputable def f_X10_sort_b44 (k24 : jw_H → Nat → Int32 → Int32 → Int32 → Option (Int32 × jw_H)) (n : Nat) : jw_H → Nat → Int32 → Int32 → Int32 → Int32 → Option (Int32 × jw_H) :=
 Nat.rec (fun _ _ _ _ _ _ => none) (fun _ k44 => g_X10_sort_b44 k24 k44) n

noncomputable def g_X10_sort_b152 (h : jw_H) (x0 : Nat) : Option (Int32 × jw_H) :=
 (jw_gR h 10 (some x0) 1).bind fun v1 =>
 (jw_gR h 10 (some x0) 9).bind fun v2 =>
 (jw_gR h 10 (some x0) 8).bind fun v3 =>
 (jw_rc h 9 v1).bind fun a4 =>
 jw_b2 (f_X9_arrange h a4 v2 v3) fun w6 h5 =>
 (jw_gR h5 10 (some x0) 1).bind fun v7 =>
 (jw_gI h5 10 (some x0) 13).bind fun v8 =>
 (jw_pI h5 9 v7 3 v8).bind fun h9 =>
 some ((0 : Int32), h9)

noncomputable def g_X10_sort_b24 (k24 : jw_H → Nat → Int32 → Int32 → Int32 → Option (Int32 × jw_H)) (h : jw_H) (x0 : Nat) (x1 : Int32) (x2 : Int32) (x3 : Int32) : Option (Int32 × jw_H) :=
 (jw_gI h 10 (some x0) 13).bind fun v1 =>
 if v1 < x3 then (g_X10_sort_b152  h x0)
 else ((jw_gR h 10 (some x0) 9).bind fun v3 =>
 (jw_ln h v3).bind fun v4 =>
 if v4 < x3 then (g_X10_sort_b152  h x0)
 else (f_X10_sort_b44 k24 jw_FU h x0 x1 x2 x3 x3))

noncomputable def f_X10_sort_b24 (n : Nat) : jw_H → Nat → Int32 → Int32 → Int32 → Option (Int32 × jw_H) :=
 Nat.rec (fun _ _ _ _ _ => none) (fun _ k24 => g_X10_sort_b24 k24) n

noncomputable def f_X10_sort (h : jw_H) (x0 : Nat) (x1 : Int32) (x2 : Int32) : Option (Int32 × jw_H) :=
 (jw_gR h 10 (some x0) 1).bind fun v1 =>
 (jw_gR h 9 v1 0).bind fun v2 =>
 (jw_gI h 7 v2 2).bind fun v3 =>
 (jw_rc h 10 (some x0)).bind fun a4 =>
 jw_b2 (f_X10_lineUp h a4 (0 : Int32) (1 : Int32) v3) fun w6 h5 =>
 (jw_gI h5 10 (some x0) 12).bind fun v7 =>
 f_X10_sort_b24  jw_FU h5 x0 x1 x2 (v7 + (1 : Int32))

set_option maxRecDepth 100000 in
set_option maxHeartbeats 4000000 in
theorem l_X10_sort_b146 {hi : jw_H} {k24 : jw_H → Nat → Int32 → Int32 → Int32 → Option (Int32 × jw_H)} (hk24 : ∀ (h : jw_H) (x0 : Nat) (x1 : Int32) (x2 : Int32) (x3 : Int32) (r : Int32) (h' : jw_H), k24 h x0 x1 x2 x3 = some (r, h') → jw_E 4 uX10_sort hi 24 [some (.ref x0), some (.int x1), some (.int x2), some (.int x3), none, none, none, none] [] h (.inl (some (.int r))) h') {h : jw_H} {x0 : Nat} {x1 : Int32} {x2 : Int32} {x3 : Int32} {r : Int32} {h' : jw_H} (hq : g_X10_sort_b146 k24 h x0 x1 x2 x3 = some (r, h')) : jw_E 4 uX10_sort hi 146 [some (.ref x0), some (.int x1), some (.int x2), some (.int x3), none, none, none, none] [] h (.inl (some (.int r))) h' := by
  unfold g_X10_sort_b146 at hq
  refine jw_iinc (L' := [some (.ref x0), some (.int x1), some (.int x2), some (.int (x3 + (1 : Int32))), none, none, none, none]) dX10_sort_146 rfl (v := (1 : Int32)) (by decide) (Nat.le_of_ble_eq_true rfl) rfl ?_
  refine jw_goto (tgt := 24) dX10_sort_149 (by decide) ?_
  exact hk24 _ _ _ _ _ _ _ hq

set_option maxRecDepth 100000 in
set_option maxHeartbeats 4000000 in
theorem l_X10_sort_b118 {hi : jw_H} {k44 : jw_H → Nat → Int32 → Int32 → Int32 → Int32 → Option (Int32 × jw_H)} (hk44 : ∀ (h : jw_H) (x0 : Nat) (x1 : Int32) (x2 : Int32) (x3 : Int32) (x4 : Int32) (r : Int32) (h' : jw_H), k44 h x0 x1 x2 x3 x4 = some (r, h') → jw_E 4 uX10_sort hi 44 [some (.ref x0), some (.int x1), some (.int x2), some (.int x3), some (.int x4), none, none, none] [] h (.inl (some (.int r))) h') {h : jw_H} {x0 : Nat} {x1 : Int32} {x2 : Int32} {x3 : Int32} {x4 : Int32} {x5 : Int32} {x6 : Int32} {r : Int32} {h' : jw_H} (hq : g_X10_sort_b118 k44 h x0 x1 x2 x3 x4 x5 x6 = some (r, h')) : jw_E 4 uX10_sort hi 118 [some (.ref x0), some (.int x1), some (.int x2), some (.int x3), some (.int x4), some (.int x5), some (.int x6), none] [] h (.inl (some (.int r))) h' := by
  unfold g_X10_sort_b118 at hq
  refine jw_aload_n dX10_sort_118 (o := (some x0)) rfl ?_
  obtain ⟨v1, ev1, hq⟩ := Option.bind_eq_some_iff.mp hq
  refine jw_getR (o := (some x0)) dX10_sort_119 ev1 fl_X10_53 rfl ?_
  refine jw_iload dX10_sort_122 rfl ?_
  refine jw_iconst dX10_sort_124 (v := (1 : Int32)) (by decide) ?_
  refine jw_isub dX10_sort_125 ?_
  refine jw_iload dX10_sort_126 rfl ?_
  obtain ⟨h2, eh2, hq⟩ := Option.bind_eq_some_iff.mp hq
  refine jw_iast (o := v1) dX10_sort_128 eh2 ?_
  refine jw_aload_n dX10_sort_129 (o := (some x0)) rfl ?_
  obtain ⟨v3, ev3, hq⟩ := Option.bind_eq_some_iff.mp hq
  refine jw_getR (o := (some x0)) dX10_sort_130 ev3 fl_X10_53 rfl ?_
  refine jw_iload dX10_sort_133 rfl ?_
  refine jw_iconst dX10_sort_135 (v := (2 : Int32)) (by decide) ?_
  refine jw_isub dX10_sort_136 ?_
  refine jw_iload dX10_sort_137 rfl ?_
  obtain ⟨h4, eh4, hq⟩ := Option.bind_eq_some_iff.mp hq
  refine jw_iast (o := v3) dX10_sort_139 eh4 ?_
  refine jw_iinc (L' := [some (.ref x0), some (.int x1), some (.int x2), some (.int x3), some (.int (x4 + (-1 : Int32))), some (.int x5), some (.int x6), none]) dX10_sort_140 rfl (v := (-1 : Int32)) (by decide) (Nat.le_of_ble_eq_true rfl) rfl ?_
  refine jw_goto (tgt := 44) dX10_sort_143 (by decide) ?_
  refine jw_forget [true, true, true, true, true, false, false, true] (L' := [some (.ref x0), some (.int x1), some (.int x2), some (.int x3), some (.int (x4 + (-1 : Int32))), none, none, none]) rfl ?_
  exact hk44 _ _ _ _ _ _ _ _ hq

set_option maxRecDepth 100000 in
set_option maxHeartbeats 4000000 in
theorem l_X10_sort_b44g {hi : jw_H} {k24 : jw_H → Nat → Int32 → Int32 → Int32 → Option (Int32 × jw_H)} (hk24 : ∀ (h : jw_H) (x0 : Nat) (x1 : Int32) (x2 : Int32) (x3 : Int32) (r : Int32) (h' : jw_H), k24 h x0 x1 x2 x3 = some (r, h') → jw_E 4 uX10_sort hi 24 [some (.ref x0), some (.int x1), some (.int x2), some (.int x3), none, none, none, none] [] h (.inl (some (.int r))) h') {k44 : jw_H → Nat → Int32 → Int32 → Int32 → Int32 → Option (Int32 × jw_H)} (hk44 : ∀ (h : jw_H) (x0 : Nat) (x1 : Int32) (x2 : Int32) (x3 : Int32) (x4 : Int32) (r : Int32) (h' : jw_H), k44 h x0 x1 x2 x3 x4 = some (r, h') → jw_E 4 uX10_sort hi 44 [some (.ref x0), some (.int x1), some (.int x2), some (.int x3), some (.int x4), none, none, none] [] h (.inl (some (.int r))) h') {h : jw_H} {x0 : Nat} {x1 : Int32} {x2 : Int32} {x3 : Int32} {x4 : Int32} {r : Int32} {h' : jw_H} (hq : g_X10_sort_b44 k24 k44 h x0 x1 x2 x3 x4 = some (r, h')) : jw_E 4 uX10_sort hi 44 [some (.ref x0), some (.int x1), some (.int x2), some (.int x3), some (.int x4), none, none, none] [] h (.inl (some (.int r))) h' := by
  unfold g_X10_sort_b44 at hq
  refine jw_iload dX10_sort_44 rfl ?_
  refine jw_aload_n dX10_sort_46 (o := (some x0)) rfl ?_
  obtain ⟨v1, ev1, hq⟩ := Option.bind_eq_some_iff.mp hq
  refine jw_getI (o := (some x0)) dX10_sort_47 ev1 fl_X10_138 rfl ?_
  rcases jw_if hq with ⟨c2, hq⟩ | ⟨c2, hq⟩
  · refine jw_icmp_le_t (tgt := 146) dX10_sort_50 (by decide) c2 ?_
    refine jw_forget [true, true, true, true, false, true, true, true] (L' := [some (.ref x0), some (.int x1), some (.int x2), some (.int x3), none, none, none, none]) rfl ?_
    exact l_X10_sort_b146 hk24 hq
  · refine jw_icmp_le_f (tgt := 146) dX10_sort_50 (by decide) c2 ?_
    refine jw_iload dX10_sort_53 rfl ?_
    refine jw_iconst dX10_sort_55 (v := (1 : Int32)) (by decide) ?_
    rcases jw_if hq with ⟨c3, hq⟩ | ⟨c3, hq⟩
    · refine jw_icmp_le_t (tgt := 146) dX10_sort_56 (by decide) c3 ?_
      refine jw_forget [true, true, true, true, false, true, true, true] (L' := [some (.ref x0), some (.int x1), some (.int x2), some (.int x3), none, none, none, none]) rfl ?_
      exact l_X10_sort_b146 hk24 hq
    · refine jw_icmp_le_f (tgt := 146) dX10_sort_56 (by decide) c3 ?_
      refine jw_aload_n dX10_sort_59 (o := (some x0)) rfl ?_
      obtain ⟨v4, ev4, hq⟩ := Option.bind_eq_some_iff.mp hq
      refine jw_getR (o := (some x0)) dX10_sort_60 ev4 fl_X10_53 rfl ?_
      refine jw_iload dX10_sort_63 rfl ?_
      refine jw_iconst dX10_sort_65 (v := (1 : Int32)) (by decide) ?_
      refine jw_isub dX10_sort_66 ?_
      obtain ⟨v5, ev5, hq⟩ := Option.bind_eq_some_iff.mp hq
      refine jw_iald (o := v4) dX10_sort_67 ev5 ?_
      refine jw_istore (L' := [some (.ref x0), some (.int x1), some (.int x2), some (.int x3), some (.int x4), some (.int v5), none, none]) dX10_sort_68 (Nat.le_of_ble_eq_true rfl) rfl ?_
      refine jw_aload_n dX10_sort_70 (o := (some x0)) rfl ?_
      obtain ⟨v6, ev6, hq⟩ := Option.bind_eq_some_iff.mp hq
      refine jw_getR (o := (some x0)) dX10_sort_71 ev6 fl_X10_53 rfl ?_
      refine jw_iload dX10_sort_74 rfl ?_
      refine jw_iconst dX10_sort_76 (v := (2 : Int32)) (by decide) ?_
      refine jw_isub dX10_sort_77 ?_
      obtain ⟨v7, ev7, hq⟩ := Option.bind_eq_some_iff.mp hq
      refine jw_iald (o := v6) dX10_sort_78 ev7 ?_
      refine jw_istore (L' := [some (.ref x0), some (.int x1), some (.int x2), some (.int x3), some (.int x4), some (.int v5), some (.int v7), none]) dX10_sort_79 (Nat.le_of_ble_eq_true rfl) rfl ?_
      refine jw_aload_n dX10_sort_81 (o := (some x0)) rfl ?_
      obtain ⟨v8, ev8, hq⟩ := Option.bind_eq_some_iff.mp hq
      refine jw_getR (o := (some x0)) dX10_sort_82 ev8 fl_X10_15 rfl ?_
      obtain ⟨v9, ev9, hq⟩ := Option.bind_eq_some_iff.mp hq
      refine jw_getR (o := v8) dX10_sort_85 ev9 fl_X10_123 rfl ?_
      refine jw_iload_n dX10_sort_88 rfl ?_
      refine jw_iload dX10_sort_89 rfl ?_
      refine jw_iload dX10_sort_91 rfl ?_
      obtain ⟨a10, ea10, hq⟩ := Option.bind_eq_some_iff.mp hq
      obtain ⟨eoa10, eta10⟩ := jw_rc_spec ea10
      obtain ⟨w12, h11, ew12, hq⟩ := jw_b2_spec hq
      refine jw_callV (As := [.int x1, .int v7, .int v5]) (S := []) (a := a10) (v := some (.int w12)) dX10_sort_93 mt_X7_compareFrom in_X7_compareFrom se_X7_compareFrom lk_X10_317 (c_X7_compareFrom ew12) eta10 (by decide) rfl rfl (by decide) (Nat.le_of_ble_eq_true rfl) (by cases eoa10; rfl) ?_
      refine jw_istore (L' := [some (.ref x0), some (.int x1), some (.int x2), some (.int x3), some (.int x4), some (.int v5), some (.int v7), some (.int w12)]) dX10_sort_96 (Nat.le_of_ble_eq_true rfl) rfl ?_
      refine jw_iload_n dX10_sort_98 rfl ?_
      rcases jw_if hq with ⟨c13, hq⟩ | ⟨c13, hq⟩
      · refine jw_if_eq_t (tgt := 110) dX10_sort_99 (by decide) c13 ?_
        refine jw_iload dX10_sort_110 rfl ?_
        rcases jw_if hq with ⟨c14, hq⟩ | ⟨c14, hq⟩
        · refine jw_if_gt_t (tgt := 118) dX10_sort_112 (by decide) c14 ?_
          refine jw_forget [true, true, true, true, true, true, true, false] (L' := [some (.ref x0), some (.int x1), some (.int x2), some (.int x3), some (.int x4), some (.int v5), some (.int v7), none]) rfl ?_
          exact l_X10_sort_b118 hk44 hq
        · refine jw_if_gt_f (tgt := 118) dX10_sort_112 (by decide) c14 ?_
          refine jw_goto (tgt := 146) dX10_sort_115 (by decide) ?_
          refine jw_forget [true, true, true, true, false, false, false, false] (L' := [some (.ref x0), some (.int x1), some (.int x2), some (.int x3), none, none, none, none]) rfl ?_
          exact l_X10_sort_b146 hk24 hq
      · refine jw_if_eq_f (tgt := 110) dX10_sort_99 (by decide) c13 ?_
        refine jw_iload dX10_sort_102 rfl ?_
        rcases jw_if hq with ⟨c15, hq⟩ | ⟨c15, hq⟩
        · refine jw_if_lt_t (tgt := 118) dX10_sort_104 (by decide) c15 ?_
          refine jw_forget [true, true, true, true, true, true, true, false] (L' := [some (.ref x0), some (.int x1), some (.int x2), some (.int x3), some (.int x4), some (.int v5), some (.int v7), none]) rfl ?_
          exact l_X10_sort_b118 hk44 hq
        · refine jw_if_lt_f (tgt := 118) dX10_sort_104 (by decide) c15 ?_
          refine jw_goto (tgt := 146) dX10_sort_107 (by decide) ?_
          refine jw_forget [true, true, true, true, false, false, false, false] (L' := [some (.ref x0), some (.int x1), some (.int x2), some (.int x3), none, none, none, none]) rfl ?_
          exact l_X10_sort_b146 hk24 hq

theorem l_X10_sort_b44 {hi : jw_H} {k24 : jw_H → Nat → Int32 → Int32 → Int32 → Option (Int32 × jw_H)} (hk24 : ∀ (h : jw_H) (x0 : Nat) (x1 : Int32) (x2 : Int32) (x3 : Int32) (r : Int32) (h' : jw_H), k24 h x0 x1 x2 x3 = some (r, h') → jw_E 4 uX10_sort hi 24 [some (.ref x0), some (.int x1), some (.int x2), some (.int x3), none, none, none, none] [] h (.inl (some (.int r))) h') : ∀ (n : Nat) (h : jw_H) (x0 : Nat) (x1 : Int32) (x2 : Int32) (x3 : Int32) (x4 : Int32) (r : Int32) (h' : jw_H), f_X10_sort_b44 k24 n h x0 x1 x2 x3 x4 = some (r, h') → jw_E 4 uX10_sort hi 44 [some (.ref x0), some (.int x1), some (.int x2), some (.int x3), some (.int x4), none, none, none] [] h (.inl (some (.int r))) h' := by
  intro n
  induction n with
  | zero => intro h x0 x1 x2 x3 x4 r h' hq; exact nomatch hq
  | succ n ih => intro h x0 x1 x2 x3 x4 r h' hq; exact l_X10_sort_b44g hk24 ih hq

set_option maxRecDepth 100000 in
set_option maxHeartbeats 4000000 in
theorem l_X10_sort_b152 {hi : jw_H} {h : jw_H} {x0 : Nat} {r : Int32} {h' : jw_H} (hq : g_X10_sort_b152  h x0 = some (r, h')) : jw_E 4 uX10_sort hi 152 [some (.ref x0), none, none, none, none, none, none, none] [] h (.inl (some (.int r))) h' := by
  unfold g_X10_sort_b152 at hq
  refine jw_aload_n dX10_sort_152 (o := (some x0)) rfl ?_
  obtain ⟨v1, ev1, hq⟩ := Option.bind_eq_some_iff.mp hq
  refine jw_getR (o := (some x0)) dX10_sort_153 ev1 fl_X10_15 rfl ?_
  refine jw_aload_n dX10_sort_156 (o := (some x0)) rfl ?_
  obtain ⟨v2, ev2, hq⟩ := Option.bind_eq_some_iff.mp hq
  refine jw_getR (o := (some x0)) dX10_sort_157 ev2 fl_X10_53 rfl ?_
  refine jw_aload_n dX10_sort_160 (o := (some x0)) rfl ?_
  obtain ⟨v3, ev3, hq⟩ := Option.bind_eq_some_iff.mp hq
  refine jw_getR (o := (some x0)) dX10_sort_161 ev3 fl_X10_50 rfl ?_
  obtain ⟨a4, ea4, hq⟩ := Option.bind_eq_some_iff.mp hq
  obtain ⟨eoa4, eta4⟩ := jw_rc_spec ea4
  obtain ⟨w6, h5, ew6, hq⟩ := jw_b2_spec hq
  refine jw_callV (As := [va_rf v2, va_rf v3]) (S := []) (a := a4) (v := none) dX10_sort_164 mt_X9_arrange in_X9_arrange se_X9_arrange lk_X10_313 (c_X9_arrange ew6) eta4 (by decide) rfl rfl (by decide) (Nat.le_of_ble_eq_true rfl) (by cases eoa4; rfl) ?_
  refine jw_aload_n dX10_sort_167 (o := (some x0)) rfl ?_
  obtain ⟨v7, ev7, hq⟩ := Option.bind_eq_some_iff.mp hq
  refine jw_getR (o := (some x0)) dX10_sort_168 ev7 fl_X10_15 rfl ?_
  refine jw_aload_n dX10_sort_171 (o := (some x0)) rfl ?_
  obtain ⟨v8, ev8, hq⟩ := Option.bind_eq_some_iff.mp hq
  refine jw_getI (o := (some x0)) dX10_sort_172 ev8 fl_X10_141 rfl ?_
  obtain ⟨h9, eh9, hq⟩ := Option.bind_eq_some_iff.mp hq
  refine jw_putI (o := v7) dX10_sort_175 eh9 fl_X10_135 rfl rfl ?_
  refine jw_iconst dX10_sort_178 (v := (0 : Int32)) (by decide) ?_
  cases hq
  exact jw_iret (ty := .int) dX10_sort_179 rfl rfl

set_option maxRecDepth 100000 in
set_option maxHeartbeats 4000000 in
theorem l_X10_sort_b24g {hi : jw_H} {k24 : jw_H → Nat → Int32 → Int32 → Int32 → Option (Int32 × jw_H)} (hk24 : ∀ (h : jw_H) (x0 : Nat) (x1 : Int32) (x2 : Int32) (x3 : Int32) (r : Int32) (h' : jw_H), k24 h x0 x1 x2 x3 = some (r, h') → jw_E 4 uX10_sort hi 24 [some (.ref x0), some (.int x1), some (.int x2), some (.int x3), none, none, none, none] [] h (.inl (some (.int r))) h') {h : jw_H} {x0 : Nat} {x1 : Int32} {x2 : Int32} {x3 : Int32} {r : Int32} {h' : jw_H} (hq : g_X10_sort_b24 k24 h x0 x1 x2 x3 = some (r, h')) : jw_E 4 uX10_sort hi 24 [some (.ref x0), some (.int x1), some (.int x2), some (.int x3), none, none, none, none] [] h (.inl (some (.int r))) h' := by
  unfold g_X10_sort_b24 at hq
  refine jw_iload_n dX10_sort_24 rfl ?_
  refine jw_aload_n dX10_sort_25 (o := (some x0)) rfl ?_
  obtain ⟨v1, ev1, hq⟩ := Option.bind_eq_some_iff.mp hq
  refine jw_getI (o := (some x0)) dX10_sort_26 ev1 fl_X10_141 rfl ?_
  rcases jw_if hq with ⟨c2, hq⟩ | ⟨c2, hq⟩
  · refine jw_icmp_gt_t (tgt := 152) dX10_sort_29 (by decide) c2 ?_
    refine jw_forget [true, false, false, false, true, true, true, true] (L' := [some (.ref x0), none, none, none, none, none, none, none]) rfl ?_
    exact l_X10_sort_b152  hq
  · refine jw_icmp_gt_f (tgt := 152) dX10_sort_29 (by decide) c2 ?_
    refine jw_iload_n dX10_sort_32 rfl ?_
    refine jw_aload_n dX10_sort_33 (o := (some x0)) rfl ?_
    obtain ⟨v3, ev3, hq⟩ := Option.bind_eq_some_iff.mp hq
    refine jw_getR (o := (some x0)) dX10_sort_34 ev3 fl_X10_53 rfl ?_
    obtain ⟨v4, ev4, hq⟩ := Option.bind_eq_some_iff.mp hq
    refine jw_alen (o := v3) dX10_sort_37 ev4 ?_
    rcases jw_if hq with ⟨c5, hq⟩ | ⟨c5, hq⟩
    · refine jw_icmp_gt_t (tgt := 152) dX10_sort_38 (by decide) c5 ?_
      refine jw_forget [true, false, false, false, true, true, true, true] (L' := [some (.ref x0), none, none, none, none, none, none, none]) rfl ?_
      exact l_X10_sort_b152  hq
    · refine jw_icmp_gt_f (tgt := 152) dX10_sort_38 (by decide) c5 ?_
      refine jw_iload_n dX10_sort_41 rfl ?_
      refine jw_istore (L' := [some (.ref x0), some (.int x1), some (.int x2), some (.int x3), some (.int x3), none, none, none]) dX10_sort_42 (Nat.le_of_ble_eq_true rfl) rfl ?_
      exact l_X10_sort_b44 hk24 jw_FU _ _ _ _ _ _ _ _ hq

theorem l_X10_sort_b24 {hi : jw_H} : ∀ (n : Nat) (h : jw_H) (x0 : Nat) (x1 : Int32) (x2 : Int32) (x3 : Int32) (r : Int32) (h' : jw_H), f_X10_sort_b24  n h x0 x1 x2 x3 = some (r, h') → jw_E 4 uX10_sort hi 24 [some (.ref x0), some (.int x1), some (.int x2), some (.int x3), none, none, none, none] [] h (.inl (some (.int r))) h' := by
  intro n
  induction n with
  | zero => intro h x0 x1 x2 x3 r h' hq; exact nomatch hq
  | succ n ih => intro h x0 x1 x2 x3 r h' hq; exact l_X10_sort_b24g ih hq

set_option maxRecDepth 100000 in
set_option maxHeartbeats 4000000 in
theorem l_X10_sort {hi : jw_H} {h : jw_H} {x0 : Nat} {x1 : Int32} {x2 : Int32} {r : Int32} {h' : jw_H} (hq : f_X10_sort  h x0 x1 x2 = some (r, h')) : jw_E 4 uX10_sort hi 0 [some (.ref x0), some (.int x1), some (.int x2), none, none, none, none, none] [] h (.inl (some (.int r))) h' := by
  unfold f_X10_sort at hq
  refine jw_aload_n dX10_sort_0 (o := (some x0)) rfl ?_
  refine jw_iconst dX10_sort_1 (v := (0 : Int32)) (by decide) ?_
  refine jw_iconst dX10_sort_2 (v := (1 : Int32)) (by decide) ?_
  refine jw_aload_n dX10_sort_3 (o := (some x0)) rfl ?_
  obtain ⟨v1, ev1, hq⟩ := Option.bind_eq_some_iff.mp hq
  refine jw_getR (o := (some x0)) dX10_sort_4 ev1 fl_X10_15 rfl ?_
  obtain ⟨v2, ev2, hq⟩ := Option.bind_eq_some_iff.mp hq
  refine jw_getR (o := v1) dX10_sort_7 ev2 fl_X10_123 rfl ?_
  obtain ⟨v3, ev3, hq⟩ := Option.bind_eq_some_iff.mp hq
  refine jw_getI (o := v2) dX10_sort_10 ev3 fl_X10_126 rfl ?_
  obtain ⟨a4, ea4, hq⟩ := Option.bind_eq_some_iff.mp hq
  obtain ⟨eoa4, eta4⟩ := jw_rc_spec ea4
  obtain ⟨w6, h5, ew6, hq⟩ := jw_b2_spec hq
  refine jw_callV (As := [.int (0 : Int32), .int (1 : Int32), .int v3]) (S := []) (a := a4) (v := some (.int w6)) dX10_sort_13 mt_X10_lineUp in_X10_lineUp se_X10_lineUp lk_X10_306 (c_X10_lineUp ew6) eta4 (by decide) rfl rfl (by decide) (Nat.le_of_ble_eq_true rfl) (by cases eoa4; rfl) ?_
  refine jw_pop dX10_sort_16 rfl ?_
  refine jw_aload_n dX10_sort_17 (o := (some x0)) rfl ?_
  obtain ⟨v7, ev7, hq⟩ := Option.bind_eq_some_iff.mp hq
  refine jw_getI (o := (some x0)) dX10_sort_18 ev7 fl_X10_138 rfl ?_
  refine jw_iconst dX10_sort_21 (v := (1 : Int32)) (by decide) ?_
  refine jw_iadd dX10_sort_22 ?_
  refine jw_istore_n (L' := [some (.ref x0), some (.int x1), some (.int x2), some (.int (v7 + (1 : Int32))), none, none, none, none]) dX10_sort_23 (Nat.le_of_ble_eq_true rfl) rfl ?_
  exact l_X10_sort_b24  jw_FU _ _ _ _ _ _ _ hq

theorem c_X10_sort {h : jw_H} {x0 : Nat} {x1 : Int32} {x2 : Int32} {r : Int32} {h' : jw_H} (hq : f_X10_sort h x0 x1 x2 = some (r, h')) : jw_Con (Cond.code yX10_sort cX10_sort 8 (some .int)) yX10_sort 4 [.ref x0, .int x1, .int x2] h (.inl (some (.int r))) h' :=
  jw_con false (plainFor_of_name (by decide +kernel)) (fun z => nomatch z) (by simp [jw_ent, jw_sl0_nil, jw_sl0_int, jw_sl0_long, jw_sl0_ref, jw_sl0_rf, jw_sl0_scr, List.replicate]) (by simp [jw_sl0_nil, jw_sl0_int, jw_sl0_long, jw_sl0_ref, jw_sl0_rf, jw_sl0_scr]) (l_X10_sort hq)


/-! X8_writeNumber -/
noncomputable def g_X8_writeNumber_b28 (h : jw_H) (x0 : Nat) (x1 : Int32) (x2 : Int32) (x3 : Int32) : Option (Int32 × jw_H) :=
 (jw_gR h 8 (some x0) 3).bind fun v1 =>
 (jw_si h 21 v1 x3 (vp_nar .byte ((48 : Int32) + (x1 - x1 / (10 : Int32) * (10 : Int32))).toInt8.toInt32)).bind fun h2 =>
 if x2 = 0 then (some ((x3 + (1 : Int32)), h2))
 else ((jw_gR h2 8 (some x0) 3).bind fun v4 =>
 (jw_si h2 21 v4 (x3 + (1 : Int32)) (vp_nar .byte (32 : Int32))).bind fun h5 =>
 some (((x3 + (1 : Int32)) + (1 : Int32)), h5))

noncomputable def f_X8_writeNumber (h : jw_H) (x0 : Nat) (x1 : Int32) (x2 : Int32) : Option (Int32 × jw_H) :=
 if x1 < (10 : Int32) then (g_X8_writeNumber_b28  h x0 x1 x2 (0 : Int32))
 else ((jw_gR h 8 (some x0) 3).bind fun v2 =>
 (jw_si h 21 v2 (0 : Int32) (vp_nar .byte ((48 : Int32) + ((x1 / (10 : Int32)) - (x1 / (10 : Int32)) / (10 : Int32) * (10 : Int32))).toInt8.toInt32)).bind fun h3 =>
 g_X8_writeNumber_b28  h3 x0 x1 x2 ((0 : Int32) + (1 : Int32)))

set_option maxRecDepth 100000 in
set_option maxHeartbeats 4000000 in
theorem l_X8_writeNumber_b28 {hi : jw_H} {h : jw_H} {x0 : Nat} {x1 : Int32} {x2 : Int32} {x3 : Int32} {r : Int32} {h' : jw_H} (hq : g_X8_writeNumber_b28  h x0 x1 x2 x3 = some (r, h')) : jw_E 0 uX8_writeNumber hi 28 [some (.ref x0), some (.int x1), some (.int x2), some (.int x3)] [] h (.inl (some (.int r))) h' := by
  unfold g_X8_writeNumber_b28 at hq
  refine jw_aload_n dX8_writeNumber_28 (o := (some x0)) rfl ?_
  obtain ⟨v1, ev1, hq⟩ := Option.bind_eq_some_iff.mp hq
  refine jw_getR (o := (some x0)) dX8_writeNumber_29 ev1 fl_X8_27 rfl ?_
  refine jw_iload_n dX8_writeNumber_32 rfl ?_
  refine jw_bipush dX8_writeNumber_33 (v := (48 : Int32)) (by decide) ?_
  refine jw_iload_n dX8_writeNumber_35 rfl ?_
  refine jw_bipush dX8_writeNumber_36 (v := (10 : Int32)) (by decide) ?_
  refine jw_irem dX8_writeNumber_38 (by decide) ?_
  refine jw_iadd dX8_writeNumber_39 ?_
  refine jw_i2b dX8_writeNumber_40 ?_
  obtain ⟨h2, eh2, hq⟩ := Option.bind_eq_some_iff.mp hq
  refine jw_bast (o := v1) rfl dX8_writeNumber_41 eh2 ?_
  refine jw_iinc (L' := [some (.ref x0), some (.int x1), some (.int x2), some (.int (x3 + (1 : Int32)))]) dX8_writeNumber_42 rfl (v := (1 : Int32)) (by decide) (Nat.le_of_ble_eq_true rfl) rfl ?_
  refine jw_iload_n dX8_writeNumber_45 rfl ?_
  rcases jw_if hq with ⟨c3, hq⟩ | ⟨c3, hq⟩
  · refine jw_if_eq_t (tgt := 60) dX8_writeNumber_46 (by decide) c3 ?_
    refine jw_iload_n dX8_writeNumber_60 rfl ?_
    cases hq
    exact jw_iret (ty := .int) dX8_writeNumber_61 rfl rfl
  · refine jw_if_eq_f (tgt := 60) dX8_writeNumber_46 (by decide) c3 ?_
    refine jw_aload_n dX8_writeNumber_49 (o := (some x0)) rfl ?_
    obtain ⟨v4, ev4, hq⟩ := Option.bind_eq_some_iff.mp hq
    refine jw_getR (o := (some x0)) dX8_writeNumber_50 ev4 fl_X8_27 rfl ?_
    refine jw_iload_n dX8_writeNumber_53 rfl ?_
    refine jw_bipush dX8_writeNumber_54 (v := (32 : Int32)) (by decide) ?_
    obtain ⟨h5, eh5, hq⟩ := Option.bind_eq_some_iff.mp hq
    refine jw_bast (o := v4) rfl dX8_writeNumber_56 eh5 ?_
    refine jw_iinc (L' := [some (.ref x0), some (.int x1), some (.int x2), some (.int ((x3 + (1 : Int32)) + (1 : Int32)))]) dX8_writeNumber_57 rfl (v := (1 : Int32)) (by decide) (Nat.le_of_ble_eq_true rfl) rfl ?_
    refine jw_iload_n dX8_writeNumber_60 rfl ?_
    cases hq
    exact jw_iret (ty := .int) dX8_writeNumber_61 rfl rfl

set_option maxRecDepth 100000 in
set_option maxHeartbeats 4000000 in
theorem l_X8_writeNumber {hi : jw_H} {h : jw_H} {x0 : Nat} {x1 : Int32} {x2 : Int32} {r : Int32} {h' : jw_H} (hq : f_X8_writeNumber  h x0 x1 x2 = some (r, h')) : jw_E 0 uX8_writeNumber hi 0 [some (.ref x0), some (.int x1), some (.int x2), none] [] h (.inl (some (.int r))) h' := by
  unfold f_X8_writeNumber at hq
  refine jw_iconst dX8_writeNumber_0 (v := (0 : Int32)) (by decide) ?_
  refine jw_istore_n (L' := [some (.ref x0), some (.int x1), some (.int x2), some (.int (0 : Int32))]) dX8_writeNumber_1 (Nat.le_of_ble_eq_true rfl) rfl ?_
  refine jw_iload_n dX8_writeNumber_2 rfl ?_
  refine jw_bipush dX8_writeNumber_3 (v := (10 : Int32)) (by decide) ?_
  rcases jw_if hq with ⟨c1, hq⟩ | ⟨c1, hq⟩
  · refine jw_icmp_lt_t (tgt := 28) dX8_writeNumber_5 (by decide) c1 ?_
    exact l_X8_writeNumber_b28  hq
  · refine jw_icmp_lt_f (tgt := 28) dX8_writeNumber_5 (by decide) c1 ?_
    refine jw_aload_n dX8_writeNumber_8 (o := (some x0)) rfl ?_
    obtain ⟨v2, ev2, hq⟩ := Option.bind_eq_some_iff.mp hq
    refine jw_getR (o := (some x0)) dX8_writeNumber_9 ev2 fl_X8_27 rfl ?_
    refine jw_iload_n dX8_writeNumber_12 rfl ?_
    refine jw_bipush dX8_writeNumber_13 (v := (48 : Int32)) (by decide) ?_
    refine jw_iload_n dX8_writeNumber_15 rfl ?_
    refine jw_bipush dX8_writeNumber_16 (v := (10 : Int32)) (by decide) ?_
    refine jw_idiv dX8_writeNumber_18 (by decide) ?_
    refine jw_bipush dX8_writeNumber_19 (v := (10 : Int32)) (by decide) ?_
    refine jw_irem dX8_writeNumber_21 (by decide) ?_
    refine jw_iadd dX8_writeNumber_22 ?_
    refine jw_i2b dX8_writeNumber_23 ?_
    obtain ⟨h3, eh3, hq⟩ := Option.bind_eq_some_iff.mp hq
    refine jw_bast (o := v2) rfl dX8_writeNumber_24 eh3 ?_
    refine jw_iinc (L' := [some (.ref x0), some (.int x1), some (.int x2), some (.int ((0 : Int32) + (1 : Int32)))]) dX8_writeNumber_25 rfl (v := (1 : Int32)) (by decide) (Nat.le_of_ble_eq_true rfl) rfl ?_
    exact l_X8_writeNumber_b28  hq

theorem c_X8_writeNumber {h : jw_H} {x0 : Nat} {x1 : Int32} {x2 : Int32} {r : Int32} {h' : jw_H} (hq : f_X8_writeNumber h x0 x1 x2 = some (r, h')) : jw_Con (Cond.code yX8_writeNumber cX8_writeNumber 4 (some .int)) yX8_writeNumber 0 [.ref x0, .int x1, .int x2] h (.inl (some (.int r))) h' :=
  jw_con false (plainFor_of_name (by decide +kernel)) (fun z => nomatch z) (by simp [jw_ent, jw_sl0_nil, jw_sl0_int, jw_sl0_long, jw_sl0_ref, jw_sl0_rf, jw_sl0_scr, List.replicate]) (by simp [jw_sl0_nil, jw_sl0_int, jw_sl0_long, jw_sl0_ref, jw_sl0_rf, jw_sl0_scr]) (l_X8_writeNumber hq)


/-! X8_print -/
noncomputable def g_X8_print_b128 (h : jw_H) (x0 : Nat) (x5 : Int32) : Option (Int32 × jw_H) :=
 (jw_gR h 8 (some x0) 1).bind fun v1 =>
 (jw_rc h 7 v1).bind fun a2 =>
 jw_b2 (f_X7_shrink h a2 x5) fun w4 h3 =>
 some ((4 : Int32), h3)

noncomputable def g_X8_print_b98 (k12 : jw_H → Nat → Option Nat → Int32 → Int32 → Int32 → Int32 → Int32 → Option (Int32 × jw_H)) (h : jw_H) (x0 : Nat) (x1 : Option Nat) (x2 : Int32) (x3 : Int32) (x4 : Int32) (x5 : Int32) (x6 : Int32) (x7 : Int32) (x8 : Int32) : Option (Int32 × jw_H) :=
 if (30 : Int32) < (x7 + x8) then (g_X8_print_b128  h x0 x5)
 else ((jw_gR h 8 (some x0) 1).bind fun v2 =>
 (jw_gR h 8 (some x0) 3).bind fun v3 =>
 (jw_rc h 7 v2).bind fun a4 =>
 jw_b2 (f_X7_add h a4 v3 (0 : Int32) (x7 + x8)) fun w6 h5 =>
 if w6 = 0 then (g_X8_print_b128  h5 x0 x5)
 else (k12 h5 x0 x1 x2 x3 x4 x5 (x6 + (1 : Int32))))

noncomputable def g_X8_print_b53 (k12 : jw_H → Nat → Option Nat → Int32 → Int32 → Int32 → Int32 → Int32 → Option (Int32 × jw_H)) (k53 : jw_H → Nat → Option Nat → Int32 → Int32 → Int32 → Int32 → Int32 → Int32 → Int32 → Int32 → Option (Int32 × jw_H)) (h : jw_H) (x0 : Nat) (x1 : Option Nat) (x2 : Int32) (x3 : Int32) (x4 : Int32) (x5 : Int32) (x6 : Int32) (x7 : Int32) (x8 : Int32) (x9 : Int32) : Option (Int32 × jw_H) :=
 if x8 ≤ x9 then (g_X8_print_b98 k12 h x0 x1 x2 x3 x4 x5 x6 x7 x8)
 else ((jw_gR h 8 (some x0) 3).bind fun v2 =>
 (jw_ln h v2).bind fun v3 =>
 if v3 ≤ (x7 + x9) then (g_X8_print_b98 k12 h x0 x1 x2 x3 x4 x5 x6 x7 x8)
 else ((jw_gR h 8 (some x0) 3).bind fun v5 =>
 (jw_rc h 7 x1).bind fun a6 =>
 jw_b2 (f_X7_signAt h a6 x6 x9) fun w8 h7 =>
 (jw_si h7 21 v5 (x7 + x9) (vp_nar .byte w8.toInt8.toInt32)).bind fun h9 =>
 k53 h9 x0 x1 x2 x3 x4 x5 x6 x7 x8 (x9 + (1 : Int32))))

noncomputable def f_X8_print_b53 (k12 : jw_H → Nat → Option Nat → Int32 → Int32 → Int32 → Int32 → Int32 → Option (Int32 × jw_H)) (n : Nat) : jw_H → Nat → Option Nat → Int32 → Int32 → Int32 → Int32 → Int32 → Int32 → Int32 → Int32 → Option (Int32 × jw_H) :=
 Nat.rec (fun _ _ _ _ _ _ _ _ _ _ _ => none) (fun _ k53 => g_X8_print_b53 k12 k53) n

noncomputable def g_X8_print_b40 (k12 : jw_H → Nat → Option Nat → Int32 → Int32 → Int32 → Int32 → Int32 → Option (Int32 × jw_H)) (h : jw_H) (x0 : Nat) (x1 : Option Nat) (x2 : Int32) (x3 : Int32) (x4 : Int32) (x5 : Int32) (x6 : Int32) (t0 : Int32) : Option (Int32 × jw_H) :=
 (jw_rc h 7 x1).bind fun a1 =>
 jw_b2 (f_X7_lengthOf h a1 x6) fun w3 h2 =>
 f_X8_print_b53 k12 jw_FU h2 x0 x1 x2 x3 x4 x5 x6 t0 w3 (0 : Int32)

noncomputable def g_X8_print_b12 (k12 : jw_H → Nat → Option Nat → Int32 → Int32 → Int32 → Int32 → Int32 → Option (Int32 × jw_H)) (h : jw_H) (x0 : Nat) (x1 : Option Nat) (x2 : Int32) (x3 : Int32) (x4 : Int32) (x5 : Int32) (x6 : Int32) : Option (Int32 × jw_H) :=
 if x3 < x6 then (some ((0 : Int32), h))
 else (if x4 = (-1 : Int32) then (g_X8_print_b40 k12 h x0 x1 x2 x3 x4 x5 x6 (0 : Int32))
 else ((jw_rc h 8 (some x0)).bind fun a3 =>
 jw_b2 (f_X8_writeNumber h a3 ((x4 + x6) - x2) (1 : Int32)) fun w5 h4 =>
 g_X8_print_b40 k12 h4 x0 x1 x2 x3 x4 x5 x6 w5))

noncomputable def f_X8_print_b12 (n : Nat) : jw_H → Nat → Option Nat → Int32 → Int32 → Int32 → Int32 → Int32 → Option (Int32 × jw_H) :=
 Nat.rec (fun _ _ _ _ _ _ _ _ => none) (fun _ k12 => g_X8_print_b12 k12) n

noncomputable def f_X8_print (h : jw_H) (x0 : Nat) (x1 : Option Nat) (x2 : Int32) (x3 : Int32) (x4 : Int32) : Option (Int32 × jw_H) :=
 (jw_gR h 8 (some x0) 1).bind fun v1 =>
 (jw_gI h 7 v1 2).bind fun v2 =>
 f_X8_print_b12  jw_FU h x0 x1 x2 x3 x4 v2 x2

set_option maxRecDepth 100000 in
set_option maxHeartbeats 4000000 in
theorem l_X8_print_b128 {hi : jw_H} {h : jw_H} {x0 : Nat} {x5 : Int32} {r : Int32} {h' : jw_H} (hq : g_X8_print_b128  h x0 x5 = some (r, h')) : jw_E 2 uX8_print hi 128 [some (.ref x0), none, none, none, none, some (.int x5), none, none, none, none] [] h (.inl (some (.int r))) h' := by
  unfold g_X8_print_b128 at hq
  refine jw_aload_n dX8_print_128 (o := (some x0)) rfl ?_
  obtain ⟨v1, ev1, hq⟩ := Option.bind_eq_some_iff.mp hq
  refine jw_getR (o := (some x0)) dX8_print_129 ev1 fl_X8_20 rfl ?_
  refine jw_iload dX8_print_132 rfl ?_
  obtain ⟨a2, ea2, hq⟩ := Option.bind_eq_some_iff.mp hq
  obtain ⟨eoa2, eta2⟩ := jw_rc_spec ea2
  obtain ⟨w4, h3, ew4, hq⟩ := jw_b2_spec hq
  refine jw_callV (As := [.int x5]) (S := []) (a := a2) (v := none) dX8_print_134 mt_X7_shrink in_X7_shrink se_X7_shrink lk_X8_59 (c_X7_shrink ew4) eta2 (by decide) rfl rfl (by decide) (Nat.le_of_ble_eq_true rfl) (by cases eoa2; rfl) ?_
  refine jw_iconst dX8_print_137 (v := (4 : Int32)) (by decide) ?_
  cases hq
  exact jw_iret (ty := .int) dX8_print_138 rfl rfl

set_option maxRecDepth 100000 in
set_option maxHeartbeats 4000000 in
theorem l_X8_print_b98 {hi : jw_H} {k12 : jw_H → Nat → Option Nat → Int32 → Int32 → Int32 → Int32 → Int32 → Option (Int32 × jw_H)} (hk12 : ∀ (h : jw_H) (x0 : Nat) (x1 : Option Nat) (x2 : Int32) (x3 : Int32) (x4 : Int32) (x5 : Int32) (x6 : Int32) (r : Int32) (h' : jw_H), k12 h x0 x1 x2 x3 x4 x5 x6 = some (r, h') → jw_E 2 uX8_print hi 12 [some (.ref x0), some (va_rf x1), some (.int x2), some (.int x3), some (.int x4), some (.int x5), some (.int x6), none, none, none] [] h (.inl (some (.int r))) h') {h : jw_H} {x0 : Nat} {x1 : Option Nat} {x2 : Int32} {x3 : Int32} {x4 : Int32} {x5 : Int32} {x6 : Int32} {x7 : Int32} {x8 : Int32} {r : Int32} {h' : jw_H} (hq : g_X8_print_b98 k12 h x0 x1 x2 x3 x4 x5 x6 x7 x8 = some (r, h')) : jw_E 2 uX8_print hi 98 [some (.ref x0), some (va_rf x1), some (.int x2), some (.int x3), some (.int x4), some (.int x5), some (.int x6), some (.int x7), some (.int x8), none] [] h (.inl (some (.int r))) h' := by
  unfold g_X8_print_b98 at hq
  refine jw_iload dX8_print_98 rfl ?_
  refine jw_iload dX8_print_100 rfl ?_
  refine jw_iadd dX8_print_102 ?_
  refine jw_bipush dX8_print_103 (v := (30 : Int32)) (by decide) ?_
  rcases jw_if hq with ⟨c1, hq⟩ | ⟨c1, hq⟩
  · refine jw_icmp_gt_t (tgt := 128) dX8_print_105 (by decide) c1 ?_
    refine jw_forget [true, false, false, false, false, true, false, false, false, true] (L' := [some (.ref x0), none, none, none, none, some (.int x5), none, none, none, none]) rfl ?_
    exact l_X8_print_b128  hq
  · refine jw_icmp_gt_f (tgt := 128) dX8_print_105 (by decide) c1 ?_
    refine jw_aload_n dX8_print_108 (o := (some x0)) rfl ?_
    obtain ⟨v2, ev2, hq⟩ := Option.bind_eq_some_iff.mp hq
    refine jw_getR (o := (some x0)) dX8_print_109 ev2 fl_X8_20 rfl ?_
    refine jw_aload_n dX8_print_112 (o := (some x0)) rfl ?_
    obtain ⟨v3, ev3, hq⟩ := Option.bind_eq_some_iff.mp hq
    refine jw_getR (o := (some x0)) dX8_print_113 ev3 fl_X8_27 rfl ?_
    refine jw_iconst dX8_print_116 (v := (0 : Int32)) (by decide) ?_
    refine jw_iload dX8_print_117 rfl ?_
    refine jw_iload dX8_print_119 rfl ?_
    refine jw_iadd dX8_print_121 ?_
    obtain ⟨a4, ea4, hq⟩ := Option.bind_eq_some_iff.mp hq
    obtain ⟨eoa4, eta4⟩ := jw_rc_spec ea4
    obtain ⟨w6, h5, ew6, hq⟩ := jw_b2_spec hq
    refine jw_callV (As := [va_rf v3, .int (0 : Int32), .int (x7 + x8)]) (S := []) (a := a4) (v := some (.int w6)) dX8_print_122 mt_X7_add in_X7_add se_X7_add lk_X8_55 (c_X7_add ew6) eta4 (by decide) rfl rfl (by decide) (Nat.le_of_ble_eq_true rfl) (by cases eoa4; rfl) ?_
    rcases jw_if hq with ⟨c7, hq⟩ | ⟨c7, hq⟩
    · refine jw_if_ne_f (tgt := 139) dX8_print_125 (by decide) c7 ?_
      refine jw_forget [true, false, false, false, false, true, false, false, false, true] (L' := [some (.ref x0), none, none, none, none, some (.int x5), none, none, none, none]) rfl ?_
      exact l_X8_print_b128  hq
    · refine jw_if_ne_t (tgt := 139) dX8_print_125 (by decide) c7 ?_
      refine jw_iinc (L' := [some (.ref x0), some (va_rf x1), some (.int x2), some (.int x3), some (.int x4), some (.int x5), some (.int (x6 + (1 : Int32))), some (.int x7), some (.int x8), none]) dX8_print_139 rfl (v := (1 : Int32)) (by decide) (Nat.le_of_ble_eq_true rfl) rfl ?_
      refine jw_goto (tgt := 12) dX8_print_142 (by decide) ?_
      refine jw_forget [true, true, true, true, true, true, true, false, false, true] (L' := [some (.ref x0), some (va_rf x1), some (.int x2), some (.int x3), some (.int x4), some (.int x5), some (.int (x6 + (1 : Int32))), none, none, none]) rfl ?_
      exact hk12 _ _ _ _ _ _ _ _ _ _ hq

set_option maxRecDepth 100000 in
set_option maxHeartbeats 4000000 in
theorem l_X8_print_b53g {hi : jw_H} {k12 : jw_H → Nat → Option Nat → Int32 → Int32 → Int32 → Int32 → Int32 → Option (Int32 × jw_H)} (hk12 : ∀ (h : jw_H) (x0 : Nat) (x1 : Option Nat) (x2 : Int32) (x3 : Int32) (x4 : Int32) (x5 : Int32) (x6 : Int32) (r : Int32) (h' : jw_H), k12 h x0 x1 x2 x3 x4 x5 x6 = some (r, h') → jw_E 2 uX8_print hi 12 [some (.ref x0), some (va_rf x1), some (.int x2), some (.int x3), some (.int x4), some (.int x5), some (.int x6), none, none, none] [] h (.inl (some (.int r))) h') {k53 : jw_H → Nat → Option Nat → Int32 → Int32 → Int32 → Int32 → Int32 → Int32 → Int32 → Int32 → Option (Int32 × jw_H)} (hk53 : ∀ (h : jw_H) (x0 : Nat) (x1 : Option Nat) (x2 : Int32) (x3 : Int32) (x4 : Int32) (x5 : Int32) (x6 : Int32) (x7 : Int32) (x8 : Int32) (x9 : Int32) (r : Int32) (h' : jw_H), k53 h x0 x1 x2 x3 x4 x5 x6 x7 x8 x9 = some (r, h') → jw_E 2 uX8_print hi 53 [some (.ref x0), some (va_rf x1), some (.int x2), some (.int x3), some (.int x4), some (.int x5), some (.int x6), some (.int x7), some (.int x8), some (.int x9)] [] h (.inl (some (.int r))) h') {h : jw_H} {x0 : Nat} {x1 : Option Nat} {x2 : Int32} {x3 : Int32} {x4 : Int32} {x5 : Int32} {x6 : Int32} {x7 : Int32} {x8 : Int32} {x9 : Int32} {r : Int32} {h' : jw_H} (hq : g_X8_print_b53 k12 k53 h x0 x1 x2 x3 x4 x5 x6 x7 x8 x9 = some (r, h')) : jw_E 2 uX8_print hi 53 [some (.ref x0), some (va_rf x1), some (.int x2), some (.int x3), some (.int x4), some (.int x5), some (.int x6), some (.int x7), some (.int x8), some (.int x9)] [] h (.inl (some (.int r))) h' := by
  unfold g_X8_print_b53 at hq
  refine jw_iload dX8_print_53 rfl ?_
  refine jw_iload dX8_print_55 rfl ?_
  rcases jw_if hq with ⟨c1, hq⟩ | ⟨c1, hq⟩
  · refine jw_icmp_ge_t (tgt := 98) dX8_print_57 (by decide) c1 ?_
    refine jw_forget [true, true, true, true, true, true, true, true, true, false] (L' := [some (.ref x0), some (va_rf x1), some (.int x2), some (.int x3), some (.int x4), some (.int x5), some (.int x6), some (.int x7), some (.int x8), none]) rfl ?_
    exact l_X8_print_b98 hk12 hq
  · refine jw_icmp_ge_f (tgt := 98) dX8_print_57 (by decide) c1 ?_
    refine jw_iload dX8_print_60 rfl ?_
    refine jw_iload dX8_print_62 rfl ?_
    refine jw_iadd dX8_print_64 ?_
    refine jw_aload_n dX8_print_65 (o := (some x0)) rfl ?_
    obtain ⟨v2, ev2, hq⟩ := Option.bind_eq_some_iff.mp hq
    refine jw_getR (o := (some x0)) dX8_print_66 ev2 fl_X8_27 rfl ?_
    obtain ⟨v3, ev3, hq⟩ := Option.bind_eq_some_iff.mp hq
    refine jw_alen (o := v2) dX8_print_69 ev3 ?_
    rcases jw_if hq with ⟨c4, hq⟩ | ⟨c4, hq⟩
    · refine jw_icmp_ge_t (tgt := 98) dX8_print_70 (by decide) c4 ?_
      refine jw_forget [true, true, true, true, true, true, true, true, true, false] (L' := [some (.ref x0), some (va_rf x1), some (.int x2), some (.int x3), some (.int x4), some (.int x5), some (.int x6), some (.int x7), some (.int x8), none]) rfl ?_
      exact l_X8_print_b98 hk12 hq
    · refine jw_icmp_ge_f (tgt := 98) dX8_print_70 (by decide) c4 ?_
      refine jw_aload_n dX8_print_73 (o := (some x0)) rfl ?_
      obtain ⟨v5, ev5, hq⟩ := Option.bind_eq_some_iff.mp hq
      refine jw_getR (o := (some x0)) dX8_print_74 ev5 fl_X8_27 rfl ?_
      refine jw_iload dX8_print_77 rfl ?_
      refine jw_iload dX8_print_79 rfl ?_
      refine jw_iadd dX8_print_81 ?_
      refine jw_aload_n dX8_print_82 (o := x1) rfl ?_
      refine jw_iload dX8_print_83 rfl ?_
      refine jw_iload dX8_print_85 rfl ?_
      obtain ⟨a6, ea6, hq⟩ := Option.bind_eq_some_iff.mp hq
      obtain ⟨eoa6, eta6⟩ := jw_rc_spec ea6
      obtain ⟨w8, h7, ew8, hq⟩ := jw_b2_spec hq
      refine jw_callV (As := [.int x6, .int x9]) (S := [.int (x7 + x9), va_rf v5]) (a := a6) (v := some (.int w8)) dX8_print_87 mt_X7_signAt in_X7_signAt se_X7_signAt lk_X8_51 (c_X7_signAt ew8) eta6 (by decide) rfl rfl (by decide) (by simp only [List.map_cons, List.map_nil, List.sum_cons, List.sum_nil, jw_cat_rf, jw_cat_i, jw_cat_l, jw_cat_a, jw_cat_s] <;> decide) (by cases eoa6; rfl) ?_
      refine jw_i2b dX8_print_90 ?_
      obtain ⟨h9, eh9, hq⟩ := Option.bind_eq_some_iff.mp hq
      refine jw_bast (o := v5) rfl dX8_print_91 eh9 ?_
      refine jw_iinc (L' := [some (.ref x0), some (va_rf x1), some (.int x2), some (.int x3), some (.int x4), some (.int x5), some (.int x6), some (.int x7), some (.int x8), some (.int (x9 + (1 : Int32)))]) dX8_print_92 rfl (v := (1 : Int32)) (by decide) (Nat.le_of_ble_eq_true rfl) rfl ?_
      refine jw_goto (tgt := 53) dX8_print_95 (by decide) ?_
      exact hk53 _ _ _ _ _ _ _ _ _ _ _ _ _ hq

theorem l_X8_print_b53 {hi : jw_H} {k12 : jw_H → Nat → Option Nat → Int32 → Int32 → Int32 → Int32 → Int32 → Option (Int32 × jw_H)} (hk12 : ∀ (h : jw_H) (x0 : Nat) (x1 : Option Nat) (x2 : Int32) (x3 : Int32) (x4 : Int32) (x5 : Int32) (x6 : Int32) (r : Int32) (h' : jw_H), k12 h x0 x1 x2 x3 x4 x5 x6 = some (r, h') → jw_E 2 uX8_print hi 12 [some (.ref x0), some (va_rf x1), some (.int x2), some (.int x3), some (.int x4), some (.int x5), some (.int x6), none, none, none] [] h (.inl (some (.int r))) h') : ∀ (n : Nat) (h : jw_H) (x0 : Nat) (x1 : Option Nat) (x2 : Int32) (x3 : Int32) (x4 : Int32) (x5 : Int32) (x6 : Int32) (x7 : Int32) (x8 : Int32) (x9 : Int32) (r : Int32) (h' : jw_H), f_X8_print_b53 k12 n h x0 x1 x2 x3 x4 x5 x6 x7 x8 x9 = some (r, h') → jw_E 2 uX8_print hi 53 [some (.ref x0), some (va_rf x1), some (.int x2), some (.int x3), some (.int x4), some (.int x5), some (.int x6), some (.int x7), some (.int x8), some (.int x9)] [] h (.inl (some (.int r))) h' := by
  intro n
  induction n with
  | zero => intro h x0 x1 x2 x3 x4 x5 x6 x7 x8 x9 r h' hq; exact nomatch hq
  | succ n ih => intro h x0 x1 x2 x3 x4 x5 x6 x7 x8 x9 r h' hq; exact l_X8_print_b53g hk12 ih hq

set_option maxRecDepth 100000 in
set_option maxHeartbeats 4000000 in
theorem l_X8_print_b40 {hi : jw_H} {k12 : jw_H → Nat → Option Nat → Int32 → Int32 → Int32 → Int32 → Int32 → Option (Int32 × jw_H)} (hk12 : ∀ (h : jw_H) (x0 : Nat) (x1 : Option Nat) (x2 : Int32) (x3 : Int32) (x4 : Int32) (x5 : Int32) (x6 : Int32) (r : Int32) (h' : jw_H), k12 h x0 x1 x2 x3 x4 x5 x6 = some (r, h') → jw_E 2 uX8_print hi 12 [some (.ref x0), some (va_rf x1), some (.int x2), some (.int x3), some (.int x4), some (.int x5), some (.int x6), none, none, none] [] h (.inl (some (.int r))) h') {h : jw_H} {x0 : Nat} {x1 : Option Nat} {x2 : Int32} {x3 : Int32} {x4 : Int32} {x5 : Int32} {x6 : Int32} {t0 : Int32} {r : Int32} {h' : jw_H} (hq : g_X8_print_b40 k12 h x0 x1 x2 x3 x4 x5 x6 t0 = some (r, h')) : jw_E 2 uX8_print hi 40 [some (.ref x0), some (va_rf x1), some (.int x2), some (.int x3), some (.int x4), some (.int x5), some (.int x6), none, none, none] [.int t0] h (.inl (some (.int r))) h' := by
  unfold g_X8_print_b40 at hq
  refine jw_istore (L' := [some (.ref x0), some (va_rf x1), some (.int x2), some (.int x3), some (.int x4), some (.int x5), some (.int x6), some (.int t0), none, none]) dX8_print_40 (Nat.le_of_ble_eq_true rfl) rfl ?_
  refine jw_aload_n dX8_print_42 (o := x1) rfl ?_
  refine jw_iload dX8_print_43 rfl ?_
  obtain ⟨a1, ea1, hq⟩ := Option.bind_eq_some_iff.mp hq
  obtain ⟨eoa1, eta1⟩ := jw_rc_spec ea1
  obtain ⟨w3, h2, ew3, hq⟩ := jw_b2_spec hq
  refine jw_callV (As := [.int x6]) (S := []) (a := a1) (v := some (.int w3)) dX8_print_45 mt_X7_lengthOf in_X7_lengthOf se_X7_lengthOf lk_X8_47 (c_X7_lengthOf ew3) eta1 (by decide) rfl rfl (by decide) (Nat.le_of_ble_eq_true rfl) (by cases eoa1; rfl) ?_
  refine jw_istore (L' := [some (.ref x0), some (va_rf x1), some (.int x2), some (.int x3), some (.int x4), some (.int x5), some (.int x6), some (.int t0), some (.int w3), none]) dX8_print_48 (Nat.le_of_ble_eq_true rfl) rfl ?_
  refine jw_iconst dX8_print_50 (v := (0 : Int32)) (by decide) ?_
  refine jw_istore (L' := [some (.ref x0), some (va_rf x1), some (.int x2), some (.int x3), some (.int x4), some (.int x5), some (.int x6), some (.int t0), some (.int w3), some (.int (0 : Int32))]) dX8_print_51 (Nat.le_of_ble_eq_true rfl) rfl ?_
  exact l_X8_print_b53 hk12 jw_FU _ _ _ _ _ _ _ _ _ _ _ _ _ hq

set_option maxRecDepth 100000 in
set_option maxHeartbeats 4000000 in
theorem l_X8_print_b12g {hi : jw_H} {k12 : jw_H → Nat → Option Nat → Int32 → Int32 → Int32 → Int32 → Int32 → Option (Int32 × jw_H)} (hk12 : ∀ (h : jw_H) (x0 : Nat) (x1 : Option Nat) (x2 : Int32) (x3 : Int32) (x4 : Int32) (x5 : Int32) (x6 : Int32) (r : Int32) (h' : jw_H), k12 h x0 x1 x2 x3 x4 x5 x6 = some (r, h') → jw_E 2 uX8_print hi 12 [some (.ref x0), some (va_rf x1), some (.int x2), some (.int x3), some (.int x4), some (.int x5), some (.int x6), none, none, none] [] h (.inl (some (.int r))) h') {h : jw_H} {x0 : Nat} {x1 : Option Nat} {x2 : Int32} {x3 : Int32} {x4 : Int32} {x5 : Int32} {x6 : Int32} {r : Int32} {h' : jw_H} (hq : g_X8_print_b12 k12 h x0 x1 x2 x3 x4 x5 x6 = some (r, h')) : jw_E 2 uX8_print hi 12 [some (.ref x0), some (va_rf x1), some (.int x2), some (.int x3), some (.int x4), some (.int x5), some (.int x6), none, none, none] [] h (.inl (some (.int r))) h' := by
  unfold g_X8_print_b12 at hq
  refine jw_iload dX8_print_12 rfl ?_
  refine jw_iload_n dX8_print_14 rfl ?_
  rcases jw_if hq with ⟨c1, hq⟩ | ⟨c1, hq⟩
  · refine jw_icmp_gt_t (tgt := 145) dX8_print_15 (by decide) c1 ?_
    refine jw_iconst dX8_print_145 (v := (0 : Int32)) (by decide) ?_
    cases hq
    exact jw_iret (ty := .int) dX8_print_146 rfl rfl
  · refine jw_icmp_gt_f (tgt := 145) dX8_print_15 (by decide) c1 ?_
    refine jw_iload dX8_print_18 rfl ?_
    refine jw_iconst dX8_print_20 (v := (-1 : Int32)) (by decide) ?_
    rcases jw_if hq with ⟨c2, hq⟩ | ⟨c2, hq⟩
    · refine jw_icmp_ne_f (tgt := 28) dX8_print_21 (by decide) c2 ?_
      refine jw_iconst dX8_print_24 (v := (0 : Int32)) (by decide) ?_
      refine jw_goto (tgt := 40) dX8_print_25 (by decide) ?_
      exact l_X8_print_b40 hk12 hq
    · refine jw_icmp_ne_t (tgt := 28) dX8_print_21 (by decide) c2 ?_
      refine jw_aload_n dX8_print_28 (o := (some x0)) rfl ?_
      refine jw_iload dX8_print_29 rfl ?_
      refine jw_iload dX8_print_31 rfl ?_
      refine jw_iadd dX8_print_33 ?_
      refine jw_iload_n dX8_print_34 rfl ?_
      refine jw_isub dX8_print_35 ?_
      refine jw_iconst dX8_print_36 (v := (1 : Int32)) (by decide) ?_
      obtain ⟨a3, ea3, hq⟩ := Option.bind_eq_some_iff.mp hq
      obtain ⟨eoa3, eta3⟩ := jw_rc_spec ea3
      obtain ⟨w5, h4, ew5, hq⟩ := jw_b2_spec hq
      refine jw_callV (As := [.int ((x4 + x6) - x2), .int (1 : Int32)]) (S := []) (a := a3) (v := some (.int w5)) dX8_print_37 mt_X8_writeNumber in_X8_writeNumber se_X8_writeNumber lk_X8_43 (c_X8_writeNumber ew5) eta3 (by decide) rfl rfl (by decide) (Nat.le_of_ble_eq_true rfl) (by cases eoa3; rfl) ?_
      exact l_X8_print_b40 hk12 hq

theorem l_X8_print_b12 {hi : jw_H} : ∀ (n : Nat) (h : jw_H) (x0 : Nat) (x1 : Option Nat) (x2 : Int32) (x3 : Int32) (x4 : Int32) (x5 : Int32) (x6 : Int32) (r : Int32) (h' : jw_H), f_X8_print_b12  n h x0 x1 x2 x3 x4 x5 x6 = some (r, h') → jw_E 2 uX8_print hi 12 [some (.ref x0), some (va_rf x1), some (.int x2), some (.int x3), some (.int x4), some (.int x5), some (.int x6), none, none, none] [] h (.inl (some (.int r))) h' := by
  intro n
  induction n with
  | zero => intro h x0 x1 x2 x3 x4 x5 x6 r h' hq; exact nomatch hq
  | succ n ih => intro h x0 x1 x2 x3 x4 x5 x6 r h' hq; exact l_X8_print_b12g ih hq

set_option maxRecDepth 100000 in
set_option maxHeartbeats 4000000 in
theorem l_X8_print {hi : jw_H} {h : jw_H} {x0 : Nat} {x1 : Option Nat} {x2 : Int32} {x3 : Int32} {x4 : Int32} {r : Int32} {h' : jw_H} (hq : f_X8_print  h x0 x1 x2 x3 x4 = some (r, h')) : jw_E 2 uX8_print hi 0 [some (.ref x0), some (va_rf x1), some (.int x2), some (.int x3), some (.int x4), none, none, none, none, none] [] h (.inl (some (.int r))) h' := by
  unfold f_X8_print at hq
  refine jw_aload_n dX8_print_0 (o := (some x0)) rfl ?_
  obtain ⟨v1, ev1, hq⟩ := Option.bind_eq_some_iff.mp hq
  refine jw_getR (o := (some x0)) dX8_print_1 ev1 fl_X8_20 rfl ?_
  obtain ⟨v2, ev2, hq⟩ := Option.bind_eq_some_iff.mp hq
  refine jw_getI (o := v1) dX8_print_4 ev2 fl_X8_39 rfl ?_
  refine jw_istore (L' := [some (.ref x0), some (va_rf x1), some (.int x2), some (.int x3), some (.int x4), some (.int v2), none, none, none, none]) dX8_print_7 (Nat.le_of_ble_eq_true rfl) rfl ?_
  refine jw_iload_n dX8_print_9 rfl ?_
  refine jw_istore (L' := [some (.ref x0), some (va_rf x1), some (.int x2), some (.int x3), some (.int x4), some (.int v2), some (.int x2), none, none, none]) dX8_print_10 (Nat.le_of_ble_eq_true rfl) rfl ?_
  exact l_X8_print_b12  jw_FU _ _ _ _ _ _ _ _ _ _ hq

theorem c_X8_print {h : jw_H} {x0 : Nat} {x1 : Option Nat} {x2 : Int32} {x3 : Int32} {x4 : Int32} {r : Int32} {h' : jw_H} (hq : f_X8_print h x0 x1 x2 x3 x4 = some (r, h')) : jw_Con (Cond.code yX8_print cX8_print 10 (some .int)) yX8_print 2 [.ref x0, va_rf x1, .int x2, .int x3, .int x4] h (.inl (some (.int r))) h' :=
  jw_con false (plainFor_of_name (by decide +kernel)) (fun z => nomatch z) (by simp [jw_ent, jw_sl0_nil, jw_sl0_int, jw_sl0_long, jw_sl0_ref, jw_sl0_rf, jw_sl0_scr, List.replicate]) (by simp [jw_sl0_nil, jw_sl0_int, jw_sl0_long, jw_sl0_ref, jw_sl0_rf, jw_sl0_scr]) (l_X8_print hq)


/-! X8_printNumber -/
noncomputable def g_X8_printNumber_b26 (h : jw_H) (t0 : Int32) : Option (Int32 × jw_H) :=
 some (t0, h)

noncomputable def f_X8_printNumber (h : jw_H) (x0 : Nat) (x1 : Int32) : Option (Int32 × jw_H) :=
 (jw_gR h 8 (some x0) 1).bind fun v1 =>
 (jw_gR h 8 (some x0) 3).bind fun v2 =>
 (jw_rc h 8 (some x0)).bind fun a3 =>
 jw_b2 (f_X8_writeNumber h a3 x1 (0 : Int32)) fun w5 h4 =>
 (jw_rc h4 7 v1).bind fun a6 =>
 jw_b2 (f_X7_add h4 a6 v2 (0 : Int32) w5) fun w8 h7 =>
 if w8 = 0 then (g_X8_printNumber_b26  h7 (4 : Int32))
 else (g_X8_printNumber_b26  h7 (0 : Int32))

set_option maxRecDepth 100000 in
set_option maxHeartbeats 4000000 in
theorem l_X8_printNumber_b26 {hi : jw_H} {h : jw_H} {t0 : Int32} {r : Int32} {h' : jw_H} (hq : g_X8_printNumber_b26  h t0 = some (r, h')) : jw_E 2 uX8_printNumber hi 26 [none, none] [.int t0] h (.inl (some (.int r))) h' := by
  unfold g_X8_printNumber_b26 at hq
  cases hq
  exact jw_iret (ty := .int) dX8_printNumber_26 rfl rfl

set_option maxRecDepth 100000 in
set_option maxHeartbeats 4000000 in
theorem l_X8_printNumber {hi : jw_H} {h : jw_H} {x0 : Nat} {x1 : Int32} {r : Int32} {h' : jw_H} (hq : f_X8_printNumber  h x0 x1 = some (r, h')) : jw_E 2 uX8_printNumber hi 0 [some (.ref x0), some (.int x1)] [] h (.inl (some (.int r))) h' := by
  unfold f_X8_printNumber at hq
  refine jw_aload_n dX8_printNumber_0 (o := (some x0)) rfl ?_
  obtain ⟨v1, ev1, hq⟩ := Option.bind_eq_some_iff.mp hq
  refine jw_getR (o := (some x0)) dX8_printNumber_1 ev1 fl_X8_20 rfl ?_
  refine jw_aload_n dX8_printNumber_4 (o := (some x0)) rfl ?_
  obtain ⟨v2, ev2, hq⟩ := Option.bind_eq_some_iff.mp hq
  refine jw_getR (o := (some x0)) dX8_printNumber_5 ev2 fl_X8_27 rfl ?_
  refine jw_iconst dX8_printNumber_8 (v := (0 : Int32)) (by decide) ?_
  refine jw_aload_n dX8_printNumber_9 (o := (some x0)) rfl ?_
  refine jw_iload_n dX8_printNumber_10 rfl ?_
  refine jw_iconst dX8_printNumber_11 (v := (0 : Int32)) (by decide) ?_
  obtain ⟨a3, ea3, hq⟩ := Option.bind_eq_some_iff.mp hq
  obtain ⟨eoa3, eta3⟩ := jw_rc_spec ea3
  obtain ⟨w5, h4, ew5, hq⟩ := jw_b2_spec hq
  refine jw_callV (As := [.int x1, .int (0 : Int32)]) (S := [.int (0 : Int32), va_rf v2, va_rf v1]) (a := a3) (v := some (.int w5)) dX8_printNumber_12 mt_X8_writeNumber in_X8_writeNumber se_X8_writeNumber lk_X8_43 (c_X8_writeNumber ew5) eta3 (by decide) rfl rfl (by decide) (by simp only [List.map_cons, List.map_nil, List.sum_cons, List.sum_nil, jw_cat_rf, jw_cat_i, jw_cat_l, jw_cat_a, jw_cat_s] <;> decide) (by cases eoa3; rfl) ?_
  obtain ⟨a6, ea6, hq⟩ := Option.bind_eq_some_iff.mp hq
  obtain ⟨eoa6, eta6⟩ := jw_rc_spec ea6
  obtain ⟨w8, h7, ew8, hq⟩ := jw_b2_spec hq
  refine jw_callV (As := [va_rf v2, .int (0 : Int32), .int w5]) (S := []) (a := a6) (v := some (.int w8)) dX8_printNumber_15 mt_X7_add in_X7_add se_X7_add lk_X8_55 (c_X7_add ew8) eta6 (by decide) rfl rfl (by decide) (Nat.le_of_ble_eq_true rfl) (by cases eoa6; rfl) ?_
  rcases jw_if hq with ⟨c9, hq⟩ | ⟨c9, hq⟩
  · refine jw_if_eq_t (tgt := 25) dX8_printNumber_18 (by decide) c9 ?_
    refine jw_iconst dX8_printNumber_25 (v := (4 : Int32)) (by decide) ?_
    refine jw_forget [false, false] (L' := [none, none]) rfl ?_
    exact l_X8_printNumber_b26  hq
  · refine jw_if_eq_f (tgt := 25) dX8_printNumber_18 (by decide) c9 ?_
    refine jw_iconst dX8_printNumber_21 (v := (0 : Int32)) (by decide) ?_
    refine jw_goto (tgt := 26) dX8_printNumber_22 (by decide) ?_
    refine jw_forget [false, false] (L' := [none, none]) rfl ?_
    exact l_X8_printNumber_b26  hq

theorem c_X8_printNumber {h : jw_H} {x0 : Nat} {x1 : Int32} {r : Int32} {h' : jw_H} (hq : f_X8_printNumber h x0 x1 = some (r, h')) : jw_Con (Cond.code yX8_printNumber cX8_printNumber 2 (some .int)) yX8_printNumber 2 [.ref x0, .int x1] h (.inl (some (.int r))) h' :=
  jw_con false (plainFor_of_name (by decide +kernel)) (fun z => nomatch z) (by simp [jw_ent, jw_sl0_nil, jw_sl0_int, jw_sl0_long, jw_sl0_ref, jw_sl0_rf, jw_sl0_scr, List.replicate]) (by simp [jw_sl0_nil, jw_sl0_int, jw_sl0_long, jw_sl0_ref, jw_sl0_rf, jw_sl0_scr]) (l_X8_printNumber hq)


/-! X8_holdMore -/
noncomputable def g_X8_holdMore_b23 (k23 : jw_H → Nat → Option Nat → Int32 → Int32 → Option (Int32 × jw_H)) (h : jw_H) (x0 : Nat) (x1 : Option Nat) (x3 : Int32) (x4 : Int32) : Option (Int32 × jw_H) :=
 if x3 < x4 then (some ((0 : Int32), h))
 else ((jw_gR h 8 (some x0) 0).bind fun v2 =>
 (jw_rc h 7 v2).bind fun a3 =>
 jw_b2 (f_X7_addRow h a3 x1 x4) fun w5 h4 =>
 k23 h4 x0 x1 x3 (x4 + (1 : Int32)))

noncomputable def f_X8_holdMore_b23 (n : Nat) : jw_H → Nat → Option Nat → Int32 → Int32 → Option (Int32 × jw_H) :=
 Nat.rec (fun _ _ _ _ _ => none) (fun _ k23 => g_X8_holdMore_b23 k23) n

noncomputable def f_X8_holdMore (h : jw_H) (x0 : Nat) (x1 : Option Nat) (x2 : Int32) (x3 : Int32) : Option (Int32 × jw_H) :=
 (jw_gR h 8 (some x0) 0).bind fun v1 =>
 (jw_gI h 7 v1 2).bind fun v2 =>
 if (((v2 + x3) - x2) + (1 : Int32)) ≤ (40 : Int32) then (f_X8_holdMore_b23  jw_FU h x0 x1 x3 x2)
 else (some ((4 : Int32), h))

set_option maxRecDepth 100000 in
set_option maxHeartbeats 4000000 in
theorem l_X8_holdMore_b23g {hi : jw_H} {k23 : jw_H → Nat → Option Nat → Int32 → Int32 → Option (Int32 × jw_H)} (hk23 : ∀ (h : jw_H) (x0 : Nat) (x1 : Option Nat) (x3 : Int32) (x4 : Int32) (r : Int32) (h' : jw_H), k23 h x0 x1 x3 x4 = some (r, h') → jw_E 3 uX8_holdMore hi 23 [some (.ref x0), some (va_rf x1), none, some (.int x3), some (.int x4)] [] h (.inl (some (.int r))) h') {h : jw_H} {x0 : Nat} {x1 : Option Nat} {x3 : Int32} {x4 : Int32} {r : Int32} {h' : jw_H} (hq : g_X8_holdMore_b23 k23 h x0 x1 x3 x4 = some (r, h')) : jw_E 3 uX8_holdMore hi 23 [some (.ref x0), some (va_rf x1), none, some (.int x3), some (.int x4)] [] h (.inl (some (.int r))) h' := by
  unfold g_X8_holdMore_b23 at hq
  refine jw_iload dX8_holdMore_23 rfl ?_
  refine jw_iload_n dX8_holdMore_25 rfl ?_
  rcases jw_if hq with ⟨c1, hq⟩ | ⟨c1, hq⟩
  · refine jw_icmp_gt_t (tgt := 46) dX8_holdMore_26 (by decide) c1 ?_
    refine jw_iconst dX8_holdMore_46 (v := (0 : Int32)) (by decide) ?_
    cases hq
    exact jw_iret (ty := .int) dX8_holdMore_47 rfl rfl
  · refine jw_icmp_gt_f (tgt := 46) dX8_holdMore_26 (by decide) c1 ?_
    refine jw_aload_n dX8_holdMore_29 (o := (some x0)) rfl ?_
    obtain ⟨v2, ev2, hq⟩ := Option.bind_eq_some_iff.mp hq
    refine jw_getR (o := (some x0)) dX8_holdMore_30 ev2 fl_X8_14 rfl ?_
    refine jw_aload_n dX8_holdMore_33 (o := x1) rfl ?_
    refine jw_iload dX8_holdMore_34 rfl ?_
    obtain ⟨a3, ea3, hq⟩ := Option.bind_eq_some_iff.mp hq
    obtain ⟨eoa3, eta3⟩ := jw_rc_spec ea3
    obtain ⟨w5, h4, ew5, hq⟩ := jw_b2_spec hq
    refine jw_callV (As := [va_rf x1, .int x4]) (S := []) (a := a3) (v := some (.int w5)) dX8_holdMore_36 mt_X7_addRow in_X7_addRow se_X7_addRow lk_X8_62 (c_X7_addRow ew5) eta3 (by decide) rfl rfl (by decide) (Nat.le_of_ble_eq_true rfl) (by cases eoa3; rfl) ?_
    refine jw_pop dX8_holdMore_39 rfl ?_
    refine jw_iinc (L' := [some (.ref x0), some (va_rf x1), none, some (.int x3), some (.int (x4 + (1 : Int32)))]) dX8_holdMore_40 rfl (v := (1 : Int32)) (by decide) (Nat.le_of_ble_eq_true rfl) rfl ?_
    refine jw_goto (tgt := 23) dX8_holdMore_43 (by decide) ?_
    exact hk23 _ _ _ _ _ _ _ hq

theorem l_X8_holdMore_b23 {hi : jw_H} : ∀ (n : Nat) (h : jw_H) (x0 : Nat) (x1 : Option Nat) (x3 : Int32) (x4 : Int32) (r : Int32) (h' : jw_H), f_X8_holdMore_b23  n h x0 x1 x3 x4 = some (r, h') → jw_E 3 uX8_holdMore hi 23 [some (.ref x0), some (va_rf x1), none, some (.int x3), some (.int x4)] [] h (.inl (some (.int r))) h' := by
  intro n
  induction n with
  | zero => intro h x0 x1 x3 x4 r h' hq; exact nomatch hq
  | succ n ih => intro h x0 x1 x3 x4 r h' hq; exact l_X8_holdMore_b23g ih hq

set_option maxRecDepth 100000 in
set_option maxHeartbeats 4000000 in
theorem l_X8_holdMore {hi : jw_H} {h : jw_H} {x0 : Nat} {x1 : Option Nat} {x2 : Int32} {x3 : Int32} {r : Int32} {h' : jw_H} (hq : f_X8_holdMore  h x0 x1 x2 x3 = some (r, h')) : jw_E 3 uX8_holdMore hi 0 [some (.ref x0), some (va_rf x1), some (.int x2), some (.int x3), none] [] h (.inl (some (.int r))) h' := by
  unfold f_X8_holdMore at hq
  refine jw_aload_n dX8_holdMore_0 (o := (some x0)) rfl ?_
  obtain ⟨v1, ev1, hq⟩ := Option.bind_eq_some_iff.mp hq
  refine jw_getR (o := (some x0)) dX8_holdMore_1 ev1 fl_X8_14 rfl ?_
  obtain ⟨v2, ev2, hq⟩ := Option.bind_eq_some_iff.mp hq
  refine jw_getI (o := v1) dX8_holdMore_4 ev2 fl_X8_39 rfl ?_
  refine jw_iload_n dX8_holdMore_7 rfl ?_
  refine jw_iadd dX8_holdMore_8 ?_
  refine jw_iload_n dX8_holdMore_9 rfl ?_
  refine jw_isub dX8_holdMore_10 ?_
  refine jw_iconst dX8_holdMore_11 (v := (1 : Int32)) (by decide) ?_
  refine jw_iadd dX8_holdMore_12 ?_
  refine jw_bipush dX8_holdMore_13 (v := (40 : Int32)) (by decide) ?_
  rcases jw_if hq with ⟨c3, hq⟩ | ⟨c3, hq⟩
  · refine jw_icmp_le_t (tgt := 20) dX8_holdMore_15 (by decide) c3 ?_
    refine jw_iload_n dX8_holdMore_20 rfl ?_
    refine jw_istore (L' := [some (.ref x0), some (va_rf x1), some (.int x2), some (.int x3), some (.int x2)]) dX8_holdMore_21 (Nat.le_of_ble_eq_true rfl) rfl ?_
    refine jw_forget [true, true, false, true, true] (L' := [some (.ref x0), some (va_rf x1), none, some (.int x3), some (.int x2)]) rfl ?_
    exact l_X8_holdMore_b23  jw_FU _ _ _ _ _ _ _ hq
  · refine jw_icmp_le_f (tgt := 20) dX8_holdMore_15 (by decide) c3 ?_
    refine jw_iconst dX8_holdMore_18 (v := (4 : Int32)) (by decide) ?_
    cases hq
    exact jw_iret (ty := .int) dX8_holdMore_19 rfl rfl

theorem c_X8_holdMore {h : jw_H} {x0 : Nat} {x1 : Option Nat} {x2 : Int32} {x3 : Int32} {r : Int32} {h' : jw_H} (hq : f_X8_holdMore h x0 x1 x2 x3 = some (r, h')) : jw_Con (Cond.code yX8_holdMore cX8_holdMore 5 (some .int)) yX8_holdMore 3 [.ref x0, va_rf x1, .int x2, .int x3] h (.inl (some (.int r))) h' :=
  jw_con false (plainFor_of_name (by decide +kernel)) (fun z => nomatch z) (by simp [jw_ent, jw_sl0_nil, jw_sl0_int, jw_sl0_long, jw_sl0_ref, jw_sl0_rf, jw_sl0_scr, List.replicate]) (by simp [jw_sl0_nil, jw_sl0_int, jw_sl0_long, jw_sl0_ref, jw_sl0_rf, jw_sl0_scr]) (l_X8_holdMore hq)


/-! X9_setMark -/
noncomputable def f_X9_setMark (h : jw_H) (x0 : Nat) (x1 : Int32) (x2 : Int32) : Option (Unit × jw_H) :=
 if x1 < 0 then (some ((), h))
 else ((jw_gR h 9 (some x0) 2).bind fun v2 =>
 (jw_ln h v2).bind fun v3 =>
 if v3 ≤ x1 then (some ((), h))
 else ((jw_gR h 9 (some x0) 2).bind fun v5 =>
 (jw_si h 20 v5 x1 x2).bind fun h6 =>
 some ((), h6)))

set_option maxRecDepth 100000 in
set_option maxHeartbeats 4000000 in
theorem l_X9_setMark {hi : jw_H} {h : jw_H} {x0 : Nat} {x1 : Int32} {x2 : Int32} {r : Unit} {h' : jw_H} (hq : f_X9_setMark  h x0 x1 x2 = some (r, h')) : jw_E 0 uX9_setMark hi 0 [some (.ref x0), some (.int x1), some (.int x2)] [] h (.inl none) h' := by
  unfold f_X9_setMark at hq
  refine jw_iload_n dX9_setMark_0 rfl ?_
  rcases jw_if hq with ⟨c1, hq⟩ | ⟨c1, hq⟩
  · refine jw_if_lt_t (tgt := 20) dX9_setMark_1 (by decide) c1 ?_
    cases hq
    exact jw_vret dX9_setMark_20 rfl
  · refine jw_if_lt_f (tgt := 20) dX9_setMark_1 (by decide) c1 ?_
    refine jw_iload_n dX9_setMark_4 rfl ?_
    refine jw_aload_n dX9_setMark_5 (o := (some x0)) rfl ?_
    obtain ⟨v2, ev2, hq⟩ := Option.bind_eq_some_iff.mp hq
    refine jw_getR (o := (some x0)) dX9_setMark_6 ev2 fl_X9_24 rfl ?_
    obtain ⟨v3, ev3, hq⟩ := Option.bind_eq_some_iff.mp hq
    refine jw_alen (o := v2) dX9_setMark_9 ev3 ?_
    rcases jw_if hq with ⟨c4, hq⟩ | ⟨c4, hq⟩
    · refine jw_icmp_ge_t (tgt := 20) dX9_setMark_10 (by decide) c4 ?_
      cases hq
      exact jw_vret dX9_setMark_20 rfl
    · refine jw_icmp_ge_f (tgt := 20) dX9_setMark_10 (by decide) c4 ?_
      refine jw_aload_n dX9_setMark_13 (o := (some x0)) rfl ?_
      obtain ⟨v5, ev5, hq⟩ := Option.bind_eq_some_iff.mp hq
      refine jw_getR (o := (some x0)) dX9_setMark_14 ev5 fl_X9_24 rfl ?_
      refine jw_iload_n dX9_setMark_17 rfl ?_
      refine jw_iload_n dX9_setMark_18 rfl ?_
      obtain ⟨h6, eh6, hq⟩ := Option.bind_eq_some_iff.mp hq
      refine jw_iast (o := v5) dX9_setMark_19 eh6 ?_
      cases hq
      exact jw_vret dX9_setMark_20 rfl

theorem c_X9_setMark {h : jw_H} {x0 : Nat} {x1 : Int32} {x2 : Int32} {r : Unit} {h' : jw_H} (hq : f_X9_setMark h x0 x1 x2 = some (r, h')) : jw_Con (Cond.code yX9_setMark cX9_setMark 3 none) yX9_setMark 0 [.ref x0, .int x1, .int x2] h (.inl none) h' :=
  jw_con false (plainFor_of_name (by decide +kernel)) (fun z => nomatch z) (by simp [jw_ent, jw_sl0_nil, jw_sl0_int, jw_sl0_long, jw_sl0_ref, jw_sl0_rf, jw_sl0_scr, List.replicate]) (by simp [jw_sl0_nil, jw_sl0_int, jw_sl0_long, jw_sl0_ref, jw_sl0_rf, jw_sl0_scr]) (l_X9_setMark hq)


/-! X10_writeFile -/
noncomputable def g_X10_writeFile_b16 (k16 : jw_H → Nat → Option Nat → Int32 → Option (Int32 × jw_H)) (h : jw_H) (x0 : Nat) (x1 : Option Nat) (x2 : Int32) : Option (Int32 × jw_H) :=
 (jw_gI h 10 (some x0) 13).bind fun v1 =>
 if v1 < x2 then (some ((0 : Int32), h))
 else ((jw_gR h 10 (some x0) 1).bind fun v3 =>
 (jw_gR h 9 v3 0).bind fun v4 =>
 (jw_rc h 7 x1).bind fun a5 =>
 jw_b2 (f_X7_addRow h a5 v4 x2) fun w7 h6 =>
 k16 h6 x0 x1 (x2 + (1 : Int32)))

noncomputable def f_X10_writeFile_b16 (n : Nat) : jw_H → Nat → Option Nat → Int32 → Option (Int32 × jw_H) :=
 Nat.rec (fun _ _ _ _ => none) (fun _ k16 => g_X10_writeFile_b16 k16) n

noncomputable def f_X10_writeFile (h : jw_H) (x0 : Nat) (x1 : Option Nat) : Option (Int32 × jw_H) :=
 if x1 = none then (some ((0 : Int32), h))
 else ((jw_rc h 7 x1).bind fun a2 =>
 jw_b2 (f_X7_shrink h a2 (0 : Int32)) fun w4 h3 =>
 (jw_gI h3 10 (some x0) 12).bind fun v5 =>
 f_X10_writeFile_b16  jw_FU h3 x0 x1 v5)

set_option maxRecDepth 100000 in
set_option maxHeartbeats 4000000 in
theorem l_X10_writeFile_b16g {hi : jw_H} {k16 : jw_H → Nat → Option Nat → Int32 → Option (Int32 × jw_H)} (hk16 : ∀ (h : jw_H) (x0 : Nat) (x1 : Option Nat) (x2 : Int32) (r : Int32) (h' : jw_H), k16 h x0 x1 x2 = some (r, h') → jw_E 3 uX10_writeFile hi 16 [some (.ref x0), some (va_rf x1), some (.int x2)] [] h (.inl (some (.int r))) h') {h : jw_H} {x0 : Nat} {x1 : Option Nat} {x2 : Int32} {r : Int32} {h' : jw_H} (hq : g_X10_writeFile_b16 k16 h x0 x1 x2 = some (r, h')) : jw_E 3 uX10_writeFile hi 16 [some (.ref x0), some (va_rf x1), some (.int x2)] [] h (.inl (some (.int r))) h' := by
  unfold g_X10_writeFile_b16 at hq
  refine jw_iload_n dX10_writeFile_16 rfl ?_
  refine jw_aload_n dX10_writeFile_17 (o := (some x0)) rfl ?_
  obtain ⟨v1, ev1, hq⟩ := Option.bind_eq_some_iff.mp hq
  refine jw_getI (o := (some x0)) dX10_writeFile_18 ev1 fl_X10_141 rfl ?_
  rcases jw_if hq with ⟨c2, hq⟩ | ⟨c2, hq⟩
  · refine jw_icmp_gt_t (tgt := 43) dX10_writeFile_21 (by decide) c2 ?_
    refine jw_iconst dX10_writeFile_43 (v := (0 : Int32)) (by decide) ?_
    cases hq
    exact jw_iret (ty := .int) dX10_writeFile_44 rfl rfl
  · refine jw_icmp_gt_f (tgt := 43) dX10_writeFile_21 (by decide) c2 ?_
    refine jw_aload_n dX10_writeFile_24 (o := x1) rfl ?_
    refine jw_aload_n dX10_writeFile_25 (o := (some x0)) rfl ?_
    obtain ⟨v3, ev3, hq⟩ := Option.bind_eq_some_iff.mp hq
    refine jw_getR (o := (some x0)) dX10_writeFile_26 ev3 fl_X10_15 rfl ?_
    obtain ⟨v4, ev4, hq⟩ := Option.bind_eq_some_iff.mp hq
    refine jw_getR (o := v3) dX10_writeFile_29 ev4 fl_X10_123 rfl ?_
    refine jw_iload_n dX10_writeFile_32 rfl ?_
    obtain ⟨a5, ea5, hq⟩ := Option.bind_eq_some_iff.mp hq
    obtain ⟨eoa5, eta5⟩ := jw_rc_spec ea5
    obtain ⟨w7, h6, ew7, hq⟩ := jw_b2_spec hq
    refine jw_callV (As := [va_rf v4, .int x2]) (S := []) (a := a5) (v := some (.int w7)) dX10_writeFile_33 mt_X7_addRow in_X7_addRow se_X7_addRow lk_X10_340 (c_X7_addRow ew7) eta5 (by decide) rfl rfl (by decide) (Nat.le_of_ble_eq_true rfl) (by cases eoa5; rfl) ?_
    refine jw_pop dX10_writeFile_36 rfl ?_
    refine jw_iinc (L' := [some (.ref x0), some (va_rf x1), some (.int (x2 + (1 : Int32)))]) dX10_writeFile_37 rfl (v := (1 : Int32)) (by decide) (Nat.le_of_ble_eq_true rfl) ((jw_st1_of (j := 1) jw_long_rf).trans rfl) ?_
    refine jw_goto (tgt := 16) dX10_writeFile_40 (by decide) ?_
    exact hk16 _ _ _ _ _ _ hq

theorem l_X10_writeFile_b16 {hi : jw_H} : ∀ (n : Nat) (h : jw_H) (x0 : Nat) (x1 : Option Nat) (x2 : Int32) (r : Int32) (h' : jw_H), f_X10_writeFile_b16  n h x0 x1 x2 = some (r, h') → jw_E 3 uX10_writeFile hi 16 [some (.ref x0), some (va_rf x1), some (.int x2)] [] h (.inl (some (.int r))) h' := by
  intro n
  induction n with
  | zero => intro h x0 x1 x2 r h' hq; exact nomatch hq
  | succ n ih => intro h x0 x1 x2 r h' hq; exact l_X10_writeFile_b16g ih hq

set_option maxRecDepth 100000 in
set_option maxHeartbeats 4000000 in
theorem l_X10_writeFile {hi : jw_H} {h : jw_H} {x0 : Nat} {x1 : Option Nat} {r : Int32} {h' : jw_H} (hq : f_X10_writeFile  h x0 x1 = some (r, h')) : jw_E 3 uX10_writeFile hi 0 [some (.ref x0), some (va_rf x1), none] [] h (.inl (some (.int r))) h' := by
  unfold f_X10_writeFile at hq
  refine jw_aload_n dX10_writeFile_0 (o := x1) rfl ?_
  rcases jw_if hq with ⟨c1, hq⟩ | ⟨c1, hq⟩
  · refine jw_ifnonnull_f (o := x1) dX10_writeFile_1 c1 ?_
    refine jw_iconst dX10_writeFile_4 (v := (0 : Int32)) (by decide) ?_
    cases hq
    exact jw_iret (ty := .int) dX10_writeFile_5 rfl rfl
  · refine jw_ifnonnull_t (o := x1) (tgt := 6) dX10_writeFile_1 (by decide) c1 ?_
    refine jw_aload_n dX10_writeFile_6 (o := x1) rfl ?_
    refine jw_iconst dX10_writeFile_7 (v := (0 : Int32)) (by decide) ?_
    obtain ⟨a2, ea2, hq⟩ := Option.bind_eq_some_iff.mp hq
    obtain ⟨eoa2, eta2⟩ := jw_rc_spec ea2
    obtain ⟨w4, h3, ew4, hq⟩ := jw_b2_spec hq
    refine jw_callV (As := [.int (0 : Int32)]) (S := []) (a := a2) (v := none) dX10_writeFile_8 mt_X7_shrink in_X7_shrink se_X7_shrink lk_X10_337 (c_X7_shrink ew4) eta2 (by decide) rfl rfl (by decide) (Nat.le_of_ble_eq_true rfl) (by cases eoa2; rfl) ?_
    refine jw_aload_n dX10_writeFile_11 (o := (some x0)) rfl ?_
    obtain ⟨v5, ev5, hq⟩ := Option.bind_eq_some_iff.mp hq
    refine jw_getI (o := (some x0)) dX10_writeFile_12 ev5 fl_X10_138 rfl ?_
    refine jw_istore_n (L' := [some (.ref x0), some (va_rf x1), some (.int v5)]) dX10_writeFile_15 (Nat.le_of_ble_eq_true rfl) ((jw_st1_of (j := 1) jw_long_rf).trans rfl) ?_
    exact l_X10_writeFile_b16  jw_FU _ _ _ _ _ _ hq

theorem c_X10_writeFile {h : jw_H} {x0 : Nat} {x1 : Option Nat} {r : Int32} {h' : jw_H} (hq : f_X10_writeFile h x0 x1 = some (r, h')) : jw_Con (Cond.code yX10_writeFile cX10_writeFile 3 (some .int)) yX10_writeFile 3 [.ref x0, va_rf x1] h (.inl (some (.int r))) h' :=
  jw_con false (plainFor_of_name (by decide +kernel)) (fun z => nomatch z) (by simp [jw_ent, jw_sl0_nil, jw_sl0_int, jw_sl0_long, jw_sl0_ref, jw_sl0_rf, jw_sl0_scr, List.replicate]) (by simp [jw_sl0_nil, jw_sl0_int, jw_sl0_long, jw_sl0_ref, jw_sl0_rf, jw_sl0_scr]) (l_X10_writeFile hq)


/-! X10_tell -/
noncomputable def g_X10_tell_b234 (h : jw_H) (x0 : Nat) (x2 : Int32) : Option (Int32 × jw_H) :=
 (jw_gR h 10 (some x0) 1).bind fun v1 =>
 (jw_gI h 10 (some x0) 13).bind fun v2 =>
 (jw_pI h 9 v1 3 v2).bind fun h3 =>
 some (x2, h3)

noncomputable def f_X10_tell (h : jw_H) (x0 : Nat) (x1 : Option Nat) : Option (Int32 × jw_H) :=
 (jw_gI h 5 x1 3).bind fun v1 =>
 if v1 = (61 : Int32) then ((jw_gR h 10 (some x0) 2).bind fun v3 =>
 (jw_gI h 10 (some x0) 13).bind fun v4 =>
 (jw_rc h 8 v3).bind fun a5 =>
 jw_b2 (f_X8_printNumber h a5 v4) fun w7 h6 =>
 some (w7, h6))
 else (if v1 = (72 : Int32) then ((jw_gR h 10 (some x0) 2).bind fun v9 =>
 (jw_gR h 10 (some x0) 1).bind fun v10 =>
 (jw_gR h 9 v10 0).bind fun v11 =>
 (jw_gI h 10 (some x0) 12).bind fun v12 =>
 (jw_gI h 10 (some x0) 13).bind fun v13 =>
 (jw_rc h 8 v9).bind fun a14 =>
 jw_b2 (f_X8_holdMore h a14 v11 v12 v13) fun w16 h15 =>
 g_X10_tell_b234  h15 x0 w16)
 else (if v1 = (104 : Int32) then ((jw_gR h 10 (some x0) 2).bind fun v18 =>
 (jw_gR h 10 (some x0) 1).bind fun v19 =>
 (jw_gR h 9 v19 0).bind fun v20 =>
 (jw_gI h 10 (some x0) 12).bind fun v21 =>
 (jw_gI h 10 (some x0) 13).bind fun v22 =>
 (jw_rc h 8 v18).bind fun a23 =>
 jw_b2 (f_X8_hold h a23 v20 v21 v22) fun w25 h24 =>
 g_X10_tell_b234  h24 x0 (0 : Int32))
 else (if v1 = (107 : Int32) then ((jw_gR h 10 (some x0) 1).bind fun v27 =>
 (jw_gI h 5 x1 5).bind fun v28 =>
 (jw_gR h 10 (some x0) 1).bind fun v29 =>
 (jw_gI h 10 (some x0) 13).bind fun v30 =>
 (jw_rc h 9 v29).bind fun a31 =>
 jw_b2 (f_X9_idOf h a31 v30) fun w33 h32 =>
 (jw_rc h32 9 v27).bind fun a34 =>
 jw_b2 (f_X9_setMark h32 a34 v28 w33) fun w36 h35 =>
 some ((0 : Int32), h35))
 else (if v1 = (110 : Int32) then ((jw_gR h 10 (some x0) 2).bind fun v38 =>
 (jw_gR h 10 (some x0) 1).bind fun v39 =>
 (jw_gR h 9 v39 0).bind fun v40 =>
 (jw_gI h 10 (some x0) 12).bind fun v41 =>
 (jw_gI h 10 (some x0) 13).bind fun v42 =>
 (jw_gI h 10 (some x0) 12).bind fun v43 =>
 (jw_rc h 8 v38).bind fun a44 =>
 jw_b2 (f_X8_print h a44 v40 v41 v42 v43) fun w46 h45 =>
 g_X10_tell_b234  h45 x0 w46)
 else (if v1 = (112 : Int32) then ((jw_gR h 10 (some x0) 2).bind fun v48 =>
 (jw_gR h 10 (some x0) 1).bind fun v49 =>
 (jw_gR h 9 v49 0).bind fun v50 =>
 (jw_gI h 10 (some x0) 12).bind fun v51 =>
 (jw_gI h 10 (some x0) 13).bind fun v52 =>
 (jw_rc h 8 v48).bind fun a53 =>
 jw_b2 (f_X8_print h a53 v50 v51 v52 (-1 : Int32)) fun w55 h54 =>
 g_X10_tell_b234  h54 x0 w55)
 else (if v1 = (119 : Int32) then ((jw_gR h 10 (some x0) 2).bind fun v57 =>
 (jw_gI h 5 x1 5).bind fun v58 =>
 (jw_rc h 8 v57).bind fun a59 =>
 jw_b2 (f_X8_file h a59 v58) fun w61 h60 =>
 (jw_rc h60 10 (some x0)).bind fun a62 =>
 jw_b2 (f_X10_writeFile h60 a62 w61) fun w64 h63 =>
 some (w64, h63))
 else (some ((0 : Int32), h))))))))

set_option maxRecDepth 100000 in
set_option maxHeartbeats 4000000 in
theorem l_X10_tell_b234 {hi : jw_H} {h : jw_H} {x0 : Nat} {x2 : Int32} {r : Int32} {h' : jw_H} (hq : g_X10_tell_b234  h x0 x2 = some (r, h')) : jw_E 4 uX10_tell hi 234 [some (.ref x0), none, some (.int x2)] [] h (.inl (some (.int r))) h' := by
  unfold g_X10_tell_b234 at hq
  refine jw_aload_n dX10_tell_234 (o := (some x0)) rfl ?_
  obtain ⟨v1, ev1, hq⟩ := Option.bind_eq_some_iff.mp hq
  refine jw_getR (o := (some x0)) dX10_tell_235 ev1 fl_X10_15 rfl ?_
  refine jw_aload_n dX10_tell_238 (o := (some x0)) rfl ?_
  obtain ⟨v2, ev2, hq⟩ := Option.bind_eq_some_iff.mp hq
  refine jw_getI (o := (some x0)) dX10_tell_239 ev2 fl_X10_141 rfl ?_
  obtain ⟨h3, eh3, hq⟩ := Option.bind_eq_some_iff.mp hq
  refine jw_putI (o := v1) dX10_tell_242 eh3 fl_X10_135 rfl rfl ?_
  refine jw_iload_n dX10_tell_245 rfl ?_
  cases hq
  exact jw_iret (ty := .int) dX10_tell_246 rfl rfl

set_option maxRecDepth 100000 in
set_option maxHeartbeats 4000000 in
theorem l_X10_tell {hi : jw_H} {h : jw_H} {x0 : Nat} {x1 : Option Nat} {r : Int32} {h' : jw_H} (hq : f_X10_tell  h x0 x1 = some (r, h')) : jw_E 4 uX10_tell hi 0 [some (.ref x0), some (va_rf x1), none] [] h (.inl (some (.int r))) h' := by
  unfold f_X10_tell at hq
  refine jw_iconst dX10_tell_0 (v := (0 : Int32)) (by decide) ?_
  refine jw_istore_n (L' := [some (.ref x0), some (va_rf x1), some (.int (0 : Int32))]) dX10_tell_1 (Nat.le_of_ble_eq_true rfl) ((jw_st1_of (j := 1) jw_long_rf).trans rfl) ?_
  refine jw_aload_n dX10_tell_2 (o := x1) rfl ?_
  obtain ⟨v1, ev1, hq⟩ := Option.bind_eq_some_iff.mp hq
  refine jw_getI (o := x1) dX10_tell_3 ev1 fl_X10_184 rfl ?_
  rcases jw_if hq with ⟨c2, hq⟩ | ⟨c2, hq⟩
  · refine jw_lookup (off := 123) (tgt := 129) dX10_tell_6 (by decide) (jw_lks (l := [(61, 123), (72, 160), (104, 135), (107, 186), (110, 93), (112, 66), (119, 210)]) (by rw [c2]; rfl)) (by decide) ?_
    refine jw_aload_n dX10_tell_129 (o := (some x0)) rfl ?_
    obtain ⟨v3, ev3, hq⟩ := Option.bind_eq_some_iff.mp hq
    refine jw_getR (o := (some x0)) dX10_tell_130 ev3 fl_X10_19 rfl ?_
    refine jw_aload_n dX10_tell_133 (o := (some x0)) rfl ?_
    obtain ⟨v4, ev4, hq⟩ := Option.bind_eq_some_iff.mp hq
    refine jw_getI (o := (some x0)) dX10_tell_134 ev4 fl_X10_141 rfl ?_
    obtain ⟨a5, ea5, hq⟩ := Option.bind_eq_some_iff.mp hq
    obtain ⟨eoa5, eta5⟩ := jw_rc_spec ea5
    obtain ⟨w7, h6, ew7, hq⟩ := jw_b2_spec hq
    refine jw_callV (As := [.int v4]) (S := []) (a := a5) (v := some (.int w7)) dX10_tell_137 mt_X8_printNumber in_X8_printNumber se_X8_printNumber lk_X10_324 (c_X8_printNumber ew7) eta5 (by decide) rfl rfl (by decide) (Nat.le_of_ble_eq_true rfl) (by cases eoa5; rfl) ?_
    cases hq
    exact jw_iret (ty := .int) dX10_tell_140 rfl rfl
  · rcases jw_if hq with ⟨c8, hq⟩ | ⟨c8, hq⟩
    · refine jw_lookup (off := 160) (tgt := 166) dX10_tell_6 (by decide) (jw_lks (l := [(61, 123), (72, 160), (104, 135), (107, 186), (110, 93), (112, 66), (119, 210)]) (by rw [lv_osw (a := 61) c2 rfl]; rw [c8]; rfl)) (by decide) ?_
      refine jw_aload_n dX10_tell_166 (o := (some x0)) rfl ?_
      obtain ⟨v9, ev9, hq⟩ := Option.bind_eq_some_iff.mp hq
      refine jw_getR (o := (some x0)) dX10_tell_167 ev9 fl_X10_19 rfl ?_
      refine jw_aload_n dX10_tell_170 (o := (some x0)) rfl ?_
      obtain ⟨v10, ev10, hq⟩ := Option.bind_eq_some_iff.mp hq
      refine jw_getR (o := (some x0)) dX10_tell_171 ev10 fl_X10_15 rfl ?_
      obtain ⟨v11, ev11, hq⟩ := Option.bind_eq_some_iff.mp hq
      refine jw_getR (o := v10) dX10_tell_174 ev11 fl_X10_123 rfl ?_
      refine jw_aload_n dX10_tell_177 (o := (some x0)) rfl ?_
      obtain ⟨v12, ev12, hq⟩ := Option.bind_eq_some_iff.mp hq
      refine jw_getI (o := (some x0)) dX10_tell_178 ev12 fl_X10_138 rfl ?_
      refine jw_aload_n dX10_tell_181 (o := (some x0)) rfl ?_
      obtain ⟨v13, ev13, hq⟩ := Option.bind_eq_some_iff.mp hq
      refine jw_getI (o := (some x0)) dX10_tell_182 ev13 fl_X10_141 rfl ?_
      obtain ⟨a14, ea14, hq⟩ := Option.bind_eq_some_iff.mp hq
      obtain ⟨eoa14, eta14⟩ := jw_rc_spec ea14
      obtain ⟨w16, h15, ew16, hq⟩ := jw_b2_spec hq
      refine jw_callV (As := [va_rf v11, .int v12, .int v13]) (S := []) (a := a14) (v := some (.int w16)) dX10_tell_185 mt_X8_holdMore in_X8_holdMore se_X8_holdMore lk_X10_327 (c_X8_holdMore ew16) eta14 (by decide) rfl rfl (by decide) (Nat.le_of_ble_eq_true rfl) (by cases eoa14; rfl) ?_
      refine jw_istore_n (L' := [some (.ref x0), some (va_rf x1), some (.int w16)]) dX10_tell_188 (Nat.le_of_ble_eq_true rfl) ((jw_st1_of (j := 1) jw_long_rf).trans rfl) ?_
      refine jw_goto (tgt := 234) dX10_tell_189 (by decide) ?_
      refine jw_forget [true, false, true] (L' := [some (.ref x0), none, some (.int w16)]) rfl ?_
      exact l_X10_tell_b234  hq
    · rcases jw_if hq with ⟨c17, hq⟩ | ⟨c17, hq⟩
      · refine jw_lookup (off := 135) (tgt := 141) dX10_tell_6 (by decide) (jw_lks (l := [(61, 123), (72, 160), (104, 135), (107, 186), (110, 93), (112, 66), (119, 210)]) (by rw [lv_osw (a := 61) c2 rfl]; rw [lv_osw (a := 72) c8 rfl]; rw [c17]; rfl)) (by decide) ?_
        refine jw_aload_n dX10_tell_141 (o := (some x0)) rfl ?_
        obtain ⟨v18, ev18, hq⟩ := Option.bind_eq_some_iff.mp hq
        refine jw_getR (o := (some x0)) dX10_tell_142 ev18 fl_X10_19 rfl ?_
        refine jw_aload_n dX10_tell_145 (o := (some x0)) rfl ?_
        obtain ⟨v19, ev19, hq⟩ := Option.bind_eq_some_iff.mp hq
        refine jw_getR (o := (some x0)) dX10_tell_146 ev19 fl_X10_15 rfl ?_
        obtain ⟨v20, ev20, hq⟩ := Option.bind_eq_some_iff.mp hq
        refine jw_getR (o := v19) dX10_tell_149 ev20 fl_X10_123 rfl ?_
        refine jw_aload_n dX10_tell_152 (o := (some x0)) rfl ?_
        obtain ⟨v21, ev21, hq⟩ := Option.bind_eq_some_iff.mp hq
        refine jw_getI (o := (some x0)) dX10_tell_153 ev21 fl_X10_138 rfl ?_
        refine jw_aload_n dX10_tell_156 (o := (some x0)) rfl ?_
        obtain ⟨v22, ev22, hq⟩ := Option.bind_eq_some_iff.mp hq
        refine jw_getI (o := (some x0)) dX10_tell_157 ev22 fl_X10_141 rfl ?_
        obtain ⟨a23, ea23, hq⟩ := Option.bind_eq_some_iff.mp hq
        obtain ⟨eoa23, eta23⟩ := jw_rc_spec ea23
        obtain ⟨w25, h24, ew25, hq⟩ := jw_b2_spec hq
        refine jw_callV (As := [va_rf v20, .int v21, .int v22]) (S := []) (a := a23) (v := none) dX10_tell_160 mt_X8_hold in_X8_hold se_X8_hold lk_X10_289 (c_X8_hold ew25) eta23 (by decide) rfl rfl (by decide) (Nat.le_of_ble_eq_true rfl) (by cases eoa23; rfl) ?_
        refine jw_goto (tgt := 234) dX10_tell_163 (by decide) ?_
        refine jw_forget [true, false, true] (L' := [some (.ref x0), none, some (.int (0 : Int32))]) rfl ?_
        exact l_X10_tell_b234  hq
      · rcases jw_if hq with ⟨c26, hq⟩ | ⟨c26, hq⟩
        · refine jw_lookup (off := 186) (tgt := 192) dX10_tell_6 (by decide) (jw_lks (l := [(61, 123), (72, 160), (104, 135), (107, 186), (110, 93), (112, 66), (119, 210)]) (by rw [lv_osw (a := 61) c2 rfl]; rw [lv_osw (a := 72) c8 rfl]; rw [lv_osw (a := 104) c17 rfl]; rw [c26]; rfl)) (by decide) ?_
          refine jw_aload_n dX10_tell_192 (o := (some x0)) rfl ?_
          obtain ⟨v27, ev27, hq⟩ := Option.bind_eq_some_iff.mp hq
          refine jw_getR (o := (some x0)) dX10_tell_193 ev27 fl_X10_15 rfl ?_
          refine jw_aload_n dX10_tell_196 (o := x1) rfl ?_
          obtain ⟨v28, ev28, hq⟩ := Option.bind_eq_some_iff.mp hq
          refine jw_getI (o := x1) dX10_tell_197 ev28 fl_X10_188 rfl ?_
          refine jw_aload_n dX10_tell_200 (o := (some x0)) rfl ?_
          obtain ⟨v29, ev29, hq⟩ := Option.bind_eq_some_iff.mp hq
          refine jw_getR (o := (some x0)) dX10_tell_201 ev29 fl_X10_15 rfl ?_
          refine jw_aload_n dX10_tell_204 (o := (some x0)) rfl ?_
          obtain ⟨v30, ev30, hq⟩ := Option.bind_eq_some_iff.mp hq
          refine jw_getI (o := (some x0)) dX10_tell_205 ev30 fl_X10_141 rfl ?_
          obtain ⟨a31, ea31, hq⟩ := Option.bind_eq_some_iff.mp hq
          obtain ⟨eoa31, eta31⟩ := jw_rc_spec ea31
          obtain ⟨w33, h32, ew33, hq⟩ := jw_b2_spec hq
          refine jw_callV (As := [.int v30]) (S := [.int v28, va_rf v27]) (a := a31) (v := some (.int w33)) dX10_tell_208 mt_X9_idOf in_X9_idOf se_X9_idOf lk_X10_217 (c_X9_idOf ew33) eta31 (by decide) rfl rfl (by decide) (by simp only [List.map_cons, List.map_nil, List.sum_cons, List.sum_nil, jw_cat_rf, jw_cat_i, jw_cat_l, jw_cat_a, jw_cat_s] <;> decide) (by cases eoa31; rfl) ?_
          obtain ⟨a34, ea34, hq⟩ := Option.bind_eq_some_iff.mp hq
          obtain ⟨eoa34, eta34⟩ := jw_rc_spec ea34
          obtain ⟨w36, h35, ew36, hq⟩ := jw_b2_spec hq
          refine jw_callV (As := [.int v28, .int w33]) (S := []) (a := a34) (v := none) dX10_tell_211 mt_X9_setMark in_X9_setMark se_X9_setMark lk_X10_331 (c_X9_setMark ew36) eta34 (by decide) rfl rfl (by decide) (Nat.le_of_ble_eq_true rfl) (by cases eoa34; rfl) ?_
          refine jw_iconst dX10_tell_214 (v := (0 : Int32)) (by decide) ?_
          cases hq
          exact jw_iret (ty := .int) dX10_tell_215 rfl rfl
        · rcases jw_if hq with ⟨c37, hq⟩ | ⟨c37, hq⟩
          · refine jw_lookup (off := 93) (tgt := 99) dX10_tell_6 (by decide) (jw_lks (l := [(61, 123), (72, 160), (104, 135), (107, 186), (110, 93), (112, 66), (119, 210)]) (by rw [lv_osw (a := 61) c2 rfl]; rw [lv_osw (a := 72) c8 rfl]; rw [lv_osw (a := 104) c17 rfl]; rw [lv_osw (a := 107) c26 rfl]; rw [c37]; rfl)) (by decide) ?_
            refine jw_aload_n dX10_tell_99 (o := (some x0)) rfl ?_
            obtain ⟨v38, ev38, hq⟩ := Option.bind_eq_some_iff.mp hq
            refine jw_getR (o := (some x0)) dX10_tell_100 ev38 fl_X10_19 rfl ?_
            refine jw_aload_n dX10_tell_103 (o := (some x0)) rfl ?_
            obtain ⟨v39, ev39, hq⟩ := Option.bind_eq_some_iff.mp hq
            refine jw_getR (o := (some x0)) dX10_tell_104 ev39 fl_X10_15 rfl ?_
            obtain ⟨v40, ev40, hq⟩ := Option.bind_eq_some_iff.mp hq
            refine jw_getR (o := v39) dX10_tell_107 ev40 fl_X10_123 rfl ?_
            refine jw_aload_n dX10_tell_110 (o := (some x0)) rfl ?_
            obtain ⟨v41, ev41, hq⟩ := Option.bind_eq_some_iff.mp hq
            refine jw_getI (o := (some x0)) dX10_tell_111 ev41 fl_X10_138 rfl ?_
            refine jw_aload_n dX10_tell_114 (o := (some x0)) rfl ?_
            obtain ⟨v42, ev42, hq⟩ := Option.bind_eq_some_iff.mp hq
            refine jw_getI (o := (some x0)) dX10_tell_115 ev42 fl_X10_141 rfl ?_
            refine jw_aload_n dX10_tell_118 (o := (some x0)) rfl ?_
            obtain ⟨v43, ev43, hq⟩ := Option.bind_eq_some_iff.mp hq
            refine jw_getI (o := (some x0)) dX10_tell_119 ev43 fl_X10_138 rfl ?_
            obtain ⟨a44, ea44, hq⟩ := Option.bind_eq_some_iff.mp hq
            obtain ⟨eoa44, eta44⟩ := jw_rc_spec ea44
            obtain ⟨w46, h45, ew46, hq⟩ := jw_b2_spec hq
            refine jw_callV (As := [va_rf v40, .int v41, .int v42, .int v43]) (S := []) (a := a44) (v := some (.int w46)) dX10_tell_122 mt_X8_print in_X8_print se_X8_print lk_X10_320 (c_X8_print ew46) eta44 (by decide) rfl rfl (by decide) (Nat.le_of_ble_eq_true rfl) (by cases eoa44; rfl) ?_
            refine jw_istore_n (L' := [some (.ref x0), some (va_rf x1), some (.int w46)]) dX10_tell_125 (Nat.le_of_ble_eq_true rfl) ((jw_st1_of (j := 1) jw_long_rf).trans rfl) ?_
            refine jw_goto (tgt := 234) dX10_tell_126 (by decide) ?_
            refine jw_forget [true, false, true] (L' := [some (.ref x0), none, some (.int w46)]) rfl ?_
            exact l_X10_tell_b234  hq
          · rcases jw_if hq with ⟨c47, hq⟩ | ⟨c47, hq⟩
            · refine jw_lookup (off := 66) (tgt := 72) dX10_tell_6 (by decide) (jw_lks (l := [(61, 123), (72, 160), (104, 135), (107, 186), (110, 93), (112, 66), (119, 210)]) (by rw [lv_osw (a := 61) c2 rfl]; rw [lv_osw (a := 72) c8 rfl]; rw [lv_osw (a := 104) c17 rfl]; rw [lv_osw (a := 107) c26 rfl]; rw [lv_osw (a := 110) c37 rfl]; rw [c47]; rfl)) (by decide) ?_
              refine jw_aload_n dX10_tell_72 (o := (some x0)) rfl ?_
              obtain ⟨v48, ev48, hq⟩ := Option.bind_eq_some_iff.mp hq
              refine jw_getR (o := (some x0)) dX10_tell_73 ev48 fl_X10_19 rfl ?_
              refine jw_aload_n dX10_tell_76 (o := (some x0)) rfl ?_
              obtain ⟨v49, ev49, hq⟩ := Option.bind_eq_some_iff.mp hq
              refine jw_getR (o := (some x0)) dX10_tell_77 ev49 fl_X10_15 rfl ?_
              obtain ⟨v50, ev50, hq⟩ := Option.bind_eq_some_iff.mp hq
              refine jw_getR (o := v49) dX10_tell_80 ev50 fl_X10_123 rfl ?_
              refine jw_aload_n dX10_tell_83 (o := (some x0)) rfl ?_
              obtain ⟨v51, ev51, hq⟩ := Option.bind_eq_some_iff.mp hq
              refine jw_getI (o := (some x0)) dX10_tell_84 ev51 fl_X10_138 rfl ?_
              refine jw_aload_n dX10_tell_87 (o := (some x0)) rfl ?_
              obtain ⟨v52, ev52, hq⟩ := Option.bind_eq_some_iff.mp hq
              refine jw_getI (o := (some x0)) dX10_tell_88 ev52 fl_X10_141 rfl ?_
              refine jw_iconst dX10_tell_91 (v := (-1 : Int32)) (by decide) ?_
              obtain ⟨a53, ea53, hq⟩ := Option.bind_eq_some_iff.mp hq
              obtain ⟨eoa53, eta53⟩ := jw_rc_spec ea53
              obtain ⟨w55, h54, ew55, hq⟩ := jw_b2_spec hq
              refine jw_callV (As := [va_rf v50, .int v51, .int v52, .int (-1 : Int32)]) (S := []) (a := a53) (v := some (.int w55)) dX10_tell_92 mt_X8_print in_X8_print se_X8_print lk_X10_320 (c_X8_print ew55) eta53 (by decide) rfl rfl (by decide) (Nat.le_of_ble_eq_true rfl) (by cases eoa53; rfl) ?_
              refine jw_istore_n (L' := [some (.ref x0), some (va_rf x1), some (.int w55)]) dX10_tell_95 (Nat.le_of_ble_eq_true rfl) ((jw_st1_of (j := 1) jw_long_rf).trans rfl) ?_
              refine jw_goto (tgt := 234) dX10_tell_96 (by decide) ?_
              refine jw_forget [true, false, true] (L' := [some (.ref x0), none, some (.int w55)]) rfl ?_
              exact l_X10_tell_b234  hq
            · rcases jw_if hq with ⟨c56, hq⟩ | ⟨c56, hq⟩
              · refine jw_lookup (off := 210) (tgt := 216) dX10_tell_6 (by decide) (jw_lks (l := [(61, 123), (72, 160), (104, 135), (107, 186), (110, 93), (112, 66), (119, 210)]) (by rw [lv_osw (a := 61) c2 rfl]; rw [lv_osw (a := 72) c8 rfl]; rw [lv_osw (a := 104) c17 rfl]; rw [lv_osw (a := 107) c26 rfl]; rw [lv_osw (a := 110) c37 rfl]; rw [lv_osw (a := 112) c47 rfl]; rw [c56]; rfl)) (by decide) ?_
                refine jw_aload_n dX10_tell_216 (o := (some x0)) rfl ?_
                refine jw_aload_n dX10_tell_217 (o := (some x0)) rfl ?_
                obtain ⟨v57, ev57, hq⟩ := Option.bind_eq_some_iff.mp hq
                refine jw_getR (o := (some x0)) dX10_tell_218 ev57 fl_X10_19 rfl ?_
                refine jw_aload_n dX10_tell_221 (o := x1) rfl ?_
                obtain ⟨v58, ev58, hq⟩ := Option.bind_eq_some_iff.mp hq
                refine jw_getI (o := x1) dX10_tell_222 ev58 fl_X10_188 rfl ?_
                obtain ⟨a59, ea59, hq⟩ := Option.bind_eq_some_iff.mp hq
                obtain ⟨eoa59, eta59⟩ := jw_rc_spec ea59
                obtain ⟨w61, h60, ew61, hq⟩ := jw_b2_spec hq
                refine jw_callV (As := [.int v58]) (S := [.ref x0]) (a := a59) (v := some (va_rf w61)) dX10_tell_225 mt_X8_file in_X8_file se_X8_file lk_X10_235 (c_X8_file ew61) eta59 (by decide) rfl rfl (by decide) (Nat.le_of_ble_eq_true rfl) (by cases eoa59; rfl) ?_
                obtain ⟨a62, ea62, hq⟩ := Option.bind_eq_some_iff.mp hq
                obtain ⟨eoa62, eta62⟩ := jw_rc_spec ea62
                obtain ⟨w64, h63, ew64, hq⟩ := jw_b2_spec hq
                refine jw_callV (As := [va_rf w61]) (S := []) (a := a62) (v := some (.int w64)) dX10_tell_228 mt_X10_writeFile in_X10_writeFile se_X10_writeFile lk_X10_334 (c_X10_writeFile ew64) eta62 (by decide) rfl rfl (by decide) (Nat.le_of_ble_eq_true rfl) (by cases eoa62; rfl) ?_
                cases hq
                exact jw_iret (ty := .int) dX10_tell_231 rfl rfl
              · refine jw_lookup (off := 226) (tgt := 232) dX10_tell_6 (by decide) (jw_lks (l := [(61, 123), (72, 160), (104, 135), (107, 186), (110, 93), (112, 66), (119, 210)]) (by rw [lv_osw (a := 61) c2 rfl]; rw [lv_osw (a := 72) c8 rfl]; rw [lv_osw (a := 104) c17 rfl]; rw [lv_osw (a := 107) c26 rfl]; rw [lv_osw (a := 110) c37 rfl]; rw [lv_osw (a := 112) c47 rfl]; rw [lv_osw (a := 119) c56 rfl]; rfl)) (by decide) ?_
                refine jw_iconst dX10_tell_232 (v := (0 : Int32)) (by decide) ?_
                cases hq
                exact jw_iret (ty := .int) dX10_tell_233 rfl rfl

theorem c_X10_tell {h : jw_H} {x0 : Nat} {x1 : Option Nat} {r : Int32} {h' : jw_H} (hq : f_X10_tell h x0 x1 = some (r, h')) : jw_Con (Cond.code yX10_tell cX10_tell 3 (some .int)) yX10_tell 4 [.ref x0, va_rf x1] h (.inl (some (.int r))) h' :=
  jw_con false (plainFor_of_name (by decide +kernel)) (fun z => nomatch z) (by simp [jw_ent, jw_sl0_nil, jw_sl0_int, jw_sl0_long, jw_sl0_ref, jw_sl0_rf, jw_sl0_scr, List.replicate]) (by simp [jw_sl0_nil, jw_sl0_int, jw_sl0_long, jw_sl0_ref, jw_sl0_rf, jw_sl0_scr]) (l_X10_tell hq)


/-! X10_doOne -/
noncomputable def g_X10_doOne_b272 (h : jw_H) (x0 : Nat) (x1 : Option Nat) : Option (Int32 × jw_H) :=
 (jw_gR h 10 (some x0) 5).bind fun v1 =>
 (jw_gR h 10 (some x0) 1).bind fun v2 =>
 (jw_gR h 9 v2 0).bind fun v3 =>
 (jw_gI h 10 (some x0) 12).bind fun v4 =>
 (jw_gI h 10 (some x0) 13).bind fun v5 =>
 (jw_rc h 2 v1).bind fun a6 =>
 jw_b2 (f_X2_change h a6 x1 v3 v4 v5) fun w8 h7 =>
 (jw_gR h7 10 (some x0) 1).bind fun v9 =>
 (jw_gI h7 10 (some x0) 13).bind fun v10 =>
 (jw_pI h7 9 v9 3 v10).bind fun h11 =>
 some (w8, h11)

noncomputable def g_X10_doOne_b502 (h : jw_H) (x0 : Nat) (x1 : Option Nat) : Option (Int32 × jw_H) :=
 (jw_rc h 10 (some x0)).bind fun a1 =>
 jw_b2 (f_X10_tell h a1 x1) fun w3 h2 =>
 some (w3, h2)

noncomputable def g_X10_doOne_b498 (h : jw_H) (t0 : Nat) (t1 : Int32) (t2 : Int32) : Option (Int32 × jw_H) :=
 (jw_rc h 10 (some t0)).bind fun a1 =>
 jw_b2 (f_X10_sort h a1 t1 t2) fun w3 h2 =>
 some (w3, h2)

noncomputable def g_X10_doOne_b479 (h : jw_H) (x0 : Nat) (x1 : Option Nat) : Option (Int32 × jw_H) :=
 (jw_gI h 5 x1 5).bind fun v1 =>
 (jw_gI h 5 x1 3).bind fun v2 =>
 if v2 = (79 : Int32) then (g_X10_doOne_b498  h x0 v1 (1 : Int32))
 else (g_X10_doOne_b498  h x0 v1 (0 : Int32))

noncomputable def g_X10_doOne_b309 (h : jw_H) (x0 : Nat) (x1 : Option Nat) : Option (Int32 × jw_H) :=
 (jw_gR h 10 (some x0) 0).bind fun v1 =>
 (jw_gR h 10 (some x0) 7).bind fun v2 =>
 (jw_rc h 6 v1).bind fun a3 =>
 jw_b2 (f_X6_rowsOf h a3 x1 v2) fun w5 h4 =>
 (jw_gI h4 5 x1 3).bind fun v6 =>
 (jw_gR h4 10 (some x0) 7).bind fun v7 =>
 (jw_rc h4 10 (some x0)).bind fun a8 =>
 jw_b2 (f_X10_bring h4 a8 v6 v7) fun w10 h9 =>
 some (w10, h9)

noncomputable def g_X10_doOne_b364 (h : jw_H) (t0 : Int32) : Option (Int32 × jw_H) :=
 some (t0, h)

noncomputable def f_X10_doOne (h : jw_H) (x0 : Nat) (x1 : Option Nat) : Option (Int32 × jw_H) :=
 (jw_gI h 5 x1 3).bind fun v1 =>
 if v1 = (60 : Int32) then (g_X10_doOne_b272  h x0 x1)
 else (if v1 = (61 : Int32) then (g_X10_doOne_b502  h x0 x1)
 else (if v1 = (62 : Int32) then (g_X10_doOne_b272  h x0 x1)
 else (if v1 = (63 : Int32) then (g_X10_doOne_b502  h x0 x1)
 else (if v1 = (64 : Int32) then (g_X10_doOne_b502  h x0 x1)
 else (if v1 = (65 : Int32) then (g_X10_doOne_b502  h x0 x1)
 else (if v1 = (66 : Int32) then (g_X10_doOne_b502  h x0 x1)
 else (if v1 = (67 : Int32) then (g_X10_doOne_b502  h x0 x1)
 else (if v1 = (68 : Int32) then (g_X10_doOne_b502  h x0 x1)
 else (if v1 = (69 : Int32) then (g_X10_doOne_b502  h x0 x1)
 else (if v1 = (70 : Int32) then (g_X10_doOne_b502  h x0 x1)
 else (if v1 = (71 : Int32) then (g_X10_doOne_b502  h x0 x1)
 else (if v1 = (72 : Int32) then (g_X10_doOne_b502  h x0 x1)
 else (if v1 = (73 : Int32) then (g_X10_doOne_b502  h x0 x1)
 else (if v1 = (74 : Int32) then (g_X10_doOne_b502  h x0 x1)
 else (if v1 = (75 : Int32) then (g_X10_doOne_b502  h x0 x1)
 else (if v1 = (76 : Int32) then (g_X10_doOne_b502  h x0 x1)
 else (if v1 = (77 : Int32) then (g_X10_doOne_b502  h x0 x1)
 else (if v1 = (78 : Int32) then (g_X10_doOne_b502  h x0 x1)
 else (if v1 = (79 : Int32) then (g_X10_doOne_b479  h x0 x1)
 else (if v1 = (80 : Int32) then (g_X10_doOne_b502  h x0 x1)
 else (if v1 = (81 : Int32) then (g_X10_doOne_b502  h x0 x1)
 else (if v1 = (82 : Int32) then (g_X10_doOne_b502  h x0 x1)
 else (if v1 = (83 : Int32) then (g_X10_doOne_b502  h x0 x1)
 else (if v1 = (84 : Int32) then (g_X10_doOne_b502  h x0 x1)
 else (if v1 = (85 : Int32) then (g_X10_doOne_b502  h x0 x1)
 else (if v1 = (86 : Int32) then (g_X10_doOne_b502  h x0 x1)
 else (if v1 = (87 : Int32) then (g_X10_doOne_b502  h x0 x1)
 else (if v1 = (88 : Int32) then (g_X10_doOne_b502  h x0 x1)
 else (if v1 = (89 : Int32) then (g_X10_doOne_b502  h x0 x1)
 else (if v1 = (90 : Int32) then (g_X10_doOne_b502  h x0 x1)
 else (if v1 = (91 : Int32) then (g_X10_doOne_b502  h x0 x1)
 else (if v1 = (92 : Int32) then (g_X10_doOne_b502  h x0 x1)
 else (if v1 = (93 : Int32) then (g_X10_doOne_b502  h x0 x1)
 else (if v1 = (94 : Int32) then (g_X10_doOne_b502  h x0 x1)
 else (if v1 = (95 : Int32) then (g_X10_doOne_b502  h x0 x1)
 else (if v1 = (96 : Int32) then (g_X10_doOne_b502  h x0 x1)
 else (if v1 = (97 : Int32) then (g_X10_doOne_b309  h x0 x1)
 else (if v1 = (98 : Int32) then (g_X10_doOne_b502  h x0 x1)
 else (if v1 = (99 : Int32) then (g_X10_doOne_b309  h x0 x1)
 else (if v1 = (100 : Int32) then ((jw_gR h 10 (some x0) 1).bind fun v43 =>
 (jw_gI h 10 (some x0) 12).bind fun v44 =>
 (jw_gI h 10 (some x0) 13).bind fun v45 =>
 (jw_gI h 10 (some x0) 12).bind fun v46 =>
 (jw_rc h 9 v43).bind fun a47 =>
 jw_b2 (f_X9_cut h a47 v44 ((v45 - v46) + (1 : Int32))) fun w49 h48 =>
 (jw_gR h48 10 (some x0) 1).bind fun v50 =>
 (jw_gI h48 10 (some x0) 12).bind fun v51 =>
 (jw_gR h48 10 (some x0) 1).bind fun v52 =>
 (jw_gR h48 9 v52 0).bind fun v53 =>
 (jw_gI h48 7 v53 2).bind fun v54 =>
 jw_b2 (f_J9_min_7cf53 h48 v51 v54) fun w56 h55 =>
 (jw_pI h55 9 v50 3 w56).bind fun h57 =>
 some ((0 : Int32), h57))
 else (if v1 = (101 : Int32) then ((jw_rc h 10 (some x0)).bind fun a59 =>
 jw_b2 (f_X10_exchange h a59) fun w61 h60 =>
 some (w61, h60))
 else (if v1 = (102 : Int32) then (g_X10_doOne_b502  h x0 x1)
 else (if v1 = (103 : Int32) then (g_X10_doOne_b502  h x0 x1)
 else (if v1 = (104 : Int32) then (g_X10_doOne_b502  h x0 x1)
 else (if v1 = (105 : Int32) then (g_X10_doOne_b309  h x0 x1)
 else (if v1 = (106 : Int32) then ((jw_rc h 10 (some x0)).bind fun a67 =>
 jw_b2 (f_X10_join h a67) fun w69 h68 =>
 some (w69, h68))
 else (if v1 = (107 : Int32) then (g_X10_doOne_b502  h x0 x1)
 else (if v1 = (108 : Int32) then ((jw_rc h 10 (some x0)).bind fun a72 =>
 jw_b2 (f_X10_leaveOutSame h a72) fun w74 h73 =>
 some (w74, h73))
 else (if v1 = (109 : Int32) then ((jw_gR h 5 x1 2).bind fun v76 =>
 (jw_rc h 10 (some x0)).bind fun a77 =>
 jw_b2 (f_X10_locate h a77 v76) fun w79 h78 =>
 (jw_rc h78 10 (some x0)).bind fun a80 =>
 jw_b2 (f_X10_move h78 a80 w79) fun w82 h81 =>
 some (w82, h81))
 else (if v1 = (110 : Int32) then (g_X10_doOne_b502  h x0 x1)
 else (if v1 = (111 : Int32) then (g_X10_doOne_b479  h x0 x1)
 else (if v1 = (112 : Int32) then (g_X10_doOne_b502  h x0 x1)
 else (if v1 = (113 : Int32) then (g_X10_doOne_b502  h x0 x1)
 else (if v1 = (114 : Int32) then ((jw_gR h 10 (some x0) 2).bind fun v88 =>
 (jw_gI h 5 x1 5).bind fun v89 =>
 (jw_rc h 8 v88).bind fun a90 =>
 jw_b2 (f_X8_file h a90 v89) fun w92 h91 =>
 (jw_rc h91 10 (some x0)).bind fun a93 =>
 jw_b2 (f_X10_readFile h91 a93 w92) fun w95 h94 =>
 some (w95, h94))
 else (if v1 = (115 : Int32) then (g_X10_doOne_b272  h x0 x1)
 else (if v1 = (116 : Int32) then ((jw_gR h 5 x1 2).bind fun v98 =>
 (jw_rc h 10 (some x0)).bind fun a99 =>
 jw_b2 (f_X10_locate h a99 v98) fun w101 h100 =>
 (jw_rc h100 10 (some x0)).bind fun a102 =>
 jw_b2 (f_X10_copyLines h100 a102 w101) fun w104 h103 =>
 some (w104, h103))
 else (if v1 = (117 : Int32) then ((jw_gR h 10 (some x0) 2).bind fun v106 =>
 (jw_gR h 8 v106 0).bind fun v107 =>
 (jw_gI h 7 v107 2).bind fun v108 =>
 if v108 = 0 then (g_X10_doOne_b364  h (5 : Int32))
 else ((jw_gR h 10 (some x0) 2).bind fun v110 =>
 (jw_gR h 8 v110 0).bind fun v111 =>
 (jw_rc h 10 (some x0)).bind fun a112 =>
 jw_b2 (f_X10_bring h a112 (117 : Int32) v111) fun w114 h113 =>
 g_X10_doOne_b364  h113 w114))
 else (if v1 = (118 : Int32) then ((jw_gI h 5 x1 5).bind fun v116 =>
 (jw_rc h 10 (some x0)).bind fun a117 =>
 jw_b2 (f_X10_part h a117 v116) fun w119 h118 =>
 some (w119, h118))
 else (if v1 = (119 : Int32) then (g_X10_doOne_b502  h x0 x1)
 else (if v1 = (120 : Int32) then (g_X10_doOne_b502  h x0 x1)
 else (if v1 = (121 : Int32) then (g_X10_doOne_b502  h x0 x1)
 else (if v1 = (122 : Int32) then (g_X10_doOne_b272  h x0 x1)
 else (g_X10_doOne_b502  h x0 x1)))))))))))))))))))))))))))))))))))))))))))))))))))))))))))))))

set_option maxRecDepth 100000 in
set_option maxHeartbeats 4000000 in
theorem l_X10_doOne_b272 {hi : jw_H} {h : jw_H} {x0 : Nat} {x1 : Option Nat} {r : Int32} {h' : jw_H} (hq : g_X10_doOne_b272  h x0 x1 = some (r, h')) : jw_E 10 uX10_doOne hi 272 [some (.ref x0), some (va_rf x1), none] [] h (.inl (some (.int r))) h' := by
  unfold g_X10_doOne_b272 at hq
  refine jw_aload_n dX10_doOne_272 (o := (some x0)) rfl ?_
  obtain ⟨v1, ev1, hq⟩ := Option.bind_eq_some_iff.mp hq
  refine jw_getR (o := (some x0)) dX10_doOne_273 ev1 fl_X10_30 rfl ?_
  refine jw_aload_n dX10_doOne_276 (o := x1) rfl ?_
  refine jw_aload_n dX10_doOne_277 (o := (some x0)) rfl ?_
  obtain ⟨v2, ev2, hq⟩ := Option.bind_eq_some_iff.mp hq
  refine jw_getR (o := (some x0)) dX10_doOne_278 ev2 fl_X10_15 rfl ?_
  obtain ⟨v3, ev3, hq⟩ := Option.bind_eq_some_iff.mp hq
  refine jw_getR (o := v2) dX10_doOne_281 ev3 fl_X10_123 rfl ?_
  refine jw_aload_n dX10_doOne_284 (o := (some x0)) rfl ?_
  obtain ⟨v4, ev4, hq⟩ := Option.bind_eq_some_iff.mp hq
  refine jw_getI (o := (some x0)) dX10_doOne_285 ev4 fl_X10_138 rfl ?_
  refine jw_aload_n dX10_doOne_288 (o := (some x0)) rfl ?_
  obtain ⟨v5, ev5, hq⟩ := Option.bind_eq_some_iff.mp hq
  refine jw_getI (o := (some x0)) dX10_doOne_289 ev5 fl_X10_141 rfl ?_
  obtain ⟨a6, ea6, hq⟩ := Option.bind_eq_some_iff.mp hq
  obtain ⟨eoa6, eta6⟩ := jw_rc_spec ea6
  obtain ⟨w8, h7, ew8, hq⟩ := jw_b2_spec hq
  refine jw_callV (As := [va_rf x1, va_rf v3, .int v4, .int v5]) (S := []) (a := a6) (v := some (.int w8)) dX10_doOne_292 mt_X2_change in_X2_change se_X2_change lk_X10_220 (c_X2_change ew8) eta6 (by decide) rfl rfl (by decide) (Nat.le_of_ble_eq_true rfl) (by cases eoa6; rfl) ?_
  refine jw_istore_n (L' := [some (.ref x0), some (va_rf x1), some (.int w8)]) dX10_doOne_295 (Nat.le_of_ble_eq_true rfl) ((jw_st1_of (j := 1) jw_long_rf).trans rfl) ?_
  refine jw_aload_n dX10_doOne_296 (o := (some x0)) rfl ?_
  obtain ⟨v9, ev9, hq⟩ := Option.bind_eq_some_iff.mp hq
  refine jw_getR (o := (some x0)) dX10_doOne_297 ev9 fl_X10_15 rfl ?_
  refine jw_aload_n dX10_doOne_300 (o := (some x0)) rfl ?_
  obtain ⟨v10, ev10, hq⟩ := Option.bind_eq_some_iff.mp hq
  refine jw_getI (o := (some x0)) dX10_doOne_301 ev10 fl_X10_141 rfl ?_
  obtain ⟨h11, eh11, hq⟩ := Option.bind_eq_some_iff.mp hq
  refine jw_putI (o := v9) dX10_doOne_304 eh11 fl_X10_135 rfl rfl ?_
  refine jw_iload_n dX10_doOne_307 rfl ?_
  cases hq
  exact jw_iret (ty := .int) dX10_doOne_308 rfl rfl

set_option maxRecDepth 100000 in
set_option maxHeartbeats 4000000 in
theorem l_X10_doOne_b502 {hi : jw_H} {h : jw_H} {x0 : Nat} {x1 : Option Nat} {r : Int32} {h' : jw_H} (hq : g_X10_doOne_b502  h x0 x1 = some (r, h')) : jw_E 10 uX10_doOne hi 502 [some (.ref x0), some (va_rf x1), none] [] h (.inl (some (.int r))) h' := by
  unfold g_X10_doOne_b502 at hq
  refine jw_aload_n dX10_doOne_502 (o := (some x0)) rfl ?_
  refine jw_aload_n dX10_doOne_503 (o := x1) rfl ?_
  obtain ⟨a1, ea1, hq⟩ := Option.bind_eq_some_iff.mp hq
  obtain ⟨eoa1, eta1⟩ := jw_rc_spec ea1
  obtain ⟨w3, h2, ew3, hq⟩ := jw_b2_spec hq
  refine jw_callV (As := [va_rf x1]) (S := []) (a := a1) (v := some (.int w3)) dX10_doOne_504 mt_X10_tell in_X10_tell se_X10_tell lk_X10_273 (c_X10_tell ew3) eta1 (by decide) rfl rfl (by decide) (Nat.le_of_ble_eq_true rfl) (by cases eoa1; rfl) ?_
  cases hq
  exact jw_iret (ty := .int) dX10_doOne_507 rfl rfl

set_option maxRecDepth 100000 in
set_option maxHeartbeats 4000000 in
theorem l_X10_doOne_b498 {hi : jw_H} {h : jw_H} {t0 : Nat} {t1 : Int32} {t2 : Int32} {r : Int32} {h' : jw_H} (hq : g_X10_doOne_b498  h t0 t1 t2 = some (r, h')) : jw_E 10 uX10_doOne hi 498 [none, none, none] [.int t2, .int t1, .ref t0] h (.inl (some (.int r))) h' := by
  unfold g_X10_doOne_b498 at hq
  obtain ⟨a1, ea1, hq⟩ := Option.bind_eq_some_iff.mp hq
  obtain ⟨eoa1, eta1⟩ := jw_rc_spec ea1
  obtain ⟨w3, h2, ew3, hq⟩ := jw_b2_spec hq
  refine jw_callV (As := [.int t1, .int t2]) (S := []) (a := a1) (v := some (.int w3)) dX10_doOne_498 mt_X10_sort in_X10_sort se_X10_sort lk_X10_269 (c_X10_sort ew3) eta1 (by decide) rfl rfl (by decide) (Nat.le_of_ble_eq_true rfl) (by cases eoa1; rfl) ?_
  cases hq
  exact jw_iret (ty := .int) dX10_doOne_501 rfl rfl

set_option maxRecDepth 100000 in
set_option maxHeartbeats 4000000 in
theorem l_X10_doOne_b479 {hi : jw_H} {h : jw_H} {x0 : Nat} {x1 : Option Nat} {r : Int32} {h' : jw_H} (hq : g_X10_doOne_b479  h x0 x1 = some (r, h')) : jw_E 10 uX10_doOne hi 479 [some (.ref x0), some (va_rf x1), none] [] h (.inl (some (.int r))) h' := by
  unfold g_X10_doOne_b479 at hq
  refine jw_aload_n dX10_doOne_479 (o := (some x0)) rfl ?_
  refine jw_aload_n dX10_doOne_480 (o := x1) rfl ?_
  obtain ⟨v1, ev1, hq⟩ := Option.bind_eq_some_iff.mp hq
  refine jw_getI (o := x1) dX10_doOne_481 ev1 fl_X10_188 rfl ?_
  refine jw_aload_n dX10_doOne_484 (o := x1) rfl ?_
  obtain ⟨v2, ev2, hq⟩ := Option.bind_eq_some_iff.mp hq
  refine jw_getI (o := x1) dX10_doOne_485 ev2 fl_X10_184 rfl ?_
  refine jw_bipush dX10_doOne_488 (v := (79 : Int32)) (by decide) ?_
  rcases jw_if hq with ⟨c3, hq⟩ | ⟨c3, hq⟩
  · refine jw_icmp_ne_f (tgt := 497) dX10_doOne_490 (by decide) c3 ?_
    refine jw_iconst dX10_doOne_493 (v := (1 : Int32)) (by decide) ?_
    refine jw_goto (tgt := 498) dX10_doOne_494 (by decide) ?_
    refine jw_forget [false, false, true] (L' := [none, none, none]) rfl ?_
    exact l_X10_doOne_b498  hq
  · refine jw_icmp_ne_t (tgt := 497) dX10_doOne_490 (by decide) c3 ?_
    refine jw_iconst dX10_doOne_497 (v := (0 : Int32)) (by decide) ?_
    refine jw_forget [false, false, true] (L' := [none, none, none]) rfl ?_
    exact l_X10_doOne_b498  hq

set_option maxRecDepth 100000 in
set_option maxHeartbeats 4000000 in
theorem l_X10_doOne_b309 {hi : jw_H} {h : jw_H} {x0 : Nat} {x1 : Option Nat} {r : Int32} {h' : jw_H} (hq : g_X10_doOne_b309  h x0 x1 = some (r, h')) : jw_E 10 uX10_doOne hi 309 [some (.ref x0), some (va_rf x1), none] [] h (.inl (some (.int r))) h' := by
  unfold g_X10_doOne_b309 at hq
  refine jw_aload_n dX10_doOne_309 (o := (some x0)) rfl ?_
  obtain ⟨v1, ev1, hq⟩ := Option.bind_eq_some_iff.mp hq
  refine jw_getR (o := (some x0)) dX10_doOne_310 ev1 fl_X10_9 rfl ?_
  refine jw_aload_n dX10_doOne_313 (o := x1) rfl ?_
  refine jw_aload_n dX10_doOne_314 (o := (some x0)) rfl ?_
  obtain ⟨v2, ev2, hq⟩ := Option.bind_eq_some_iff.mp hq
  refine jw_getR (o := (some x0)) dX10_doOne_315 ev2 fl_X10_43 rfl ?_
  obtain ⟨a3, ea3, hq⟩ := Option.bind_eq_some_iff.mp hq
  obtain ⟨eoa3, eta3⟩ := jw_rc_spec ea3
  obtain ⟨w5, h4, ew5, hq⟩ := jw_b2_spec hq
  refine jw_callV (As := [va_rf x1, va_rf v2]) (S := []) (a := a3) (v := none) dX10_doOne_318 mt_X6_rowsOf in_X6_rowsOf se_X6_rowsOf lk_X10_224 (c_X6_rowsOf ew5) eta3 (by decide) rfl rfl (by decide) (Nat.le_of_ble_eq_true rfl) (by cases eoa3; rfl) ?_
  refine jw_aload_n dX10_doOne_321 (o := (some x0)) rfl ?_
  refine jw_aload_n dX10_doOne_322 (o := x1) rfl ?_
  obtain ⟨v6, ev6, hq⟩ := Option.bind_eq_some_iff.mp hq
  refine jw_getI (o := x1) dX10_doOne_323 ev6 fl_X10_184 rfl ?_
  refine jw_aload_n dX10_doOne_326 (o := (some x0)) rfl ?_
  obtain ⟨v7, ev7, hq⟩ := Option.bind_eq_some_iff.mp hq
  refine jw_getR (o := (some x0)) dX10_doOne_327 ev7 fl_X10_43 rfl ?_
  obtain ⟨a8, ea8, hq⟩ := Option.bind_eq_some_iff.mp hq
  obtain ⟨eoa8, eta8⟩ := jw_rc_spec ea8
  obtain ⟨w10, h9, ew10, hq⟩ := jw_b2_spec hq
  refine jw_callV (As := [.int v6, va_rf v7]) (S := []) (a := a8) (v := some (.int w10)) dX10_doOne_330 mt_X10_bring in_X10_bring se_X10_bring lk_X10_228 (c_X10_bring ew10) eta8 (by decide) rfl rfl (by decide) (Nat.le_of_ble_eq_true rfl) (by cases eoa8; rfl) ?_
  cases hq
  exact jw_iret (ty := .int) dX10_doOne_333 rfl rfl

set_option maxRecDepth 100000 in
set_option maxHeartbeats 4000000 in
theorem l_X10_doOne_b364 {hi : jw_H} {h : jw_H} {t0 : Int32} {r : Int32} {h' : jw_H} (hq : g_X10_doOne_b364  h t0 = some (r, h')) : jw_E 10 uX10_doOne hi 364 [none, none, none] [.int t0] h (.inl (some (.int r))) h' := by
  unfold g_X10_doOne_b364 at hq
  cases hq
  exact jw_iret (ty := .int) dX10_doOne_364 rfl rfl

set_option maxRecDepth 100000 in
set_option maxHeartbeats 4000000 in
theorem l_X10_doOne {hi : jw_H} {h : jw_H} {x0 : Nat} {x1 : Option Nat} {r : Int32} {h' : jw_H} (hq : f_X10_doOne  h x0 x1 = some (r, h')) : jw_E 10 uX10_doOne hi 0 [some (.ref x0), some (va_rf x1), none] [] h (.inl (some (.int r))) h' := by
  unfold f_X10_doOne at hq
  refine jw_aload_n dX10_doOne_0 (o := x1) rfl ?_
  obtain ⟨v1, ev1, hq⟩ := Option.bind_eq_some_iff.mp hq
  refine jw_getI (o := x1) dX10_doOne_1 ev1 fl_X10_184 rfl ?_
  rcases jw_if hq with ⟨c2, hq⟩ | ⟨c2, hq⟩
  · refine jw_tableIn (tgt := 272) (off := 268) dX10_doOne_4 (by rw [c2]; decide) (by rw [c2]; decide) (by rw [c2]; rfl) (by decide) ?_
    exact l_X10_doOne_b272  hq
  · rcases jw_if hq with ⟨c3, hq⟩ | ⟨c3, hq⟩
    · refine jw_tableIn (tgt := 502) (off := 498) dX10_doOne_4 (by rw [c3]; decide) (by rw [c3]; decide) (by rw [c3]; rfl) (by decide) ?_
      exact l_X10_doOne_b502  hq
    · rcases jw_if hq with ⟨c4, hq⟩ | ⟨c4, hq⟩
      · refine jw_tableIn (tgt := 272) (off := 268) dX10_doOne_4 (by rw [c4]; decide) (by rw [c4]; decide) (by rw [c4]; rfl) (by decide) ?_
        exact l_X10_doOne_b272  hq
      · rcases jw_if hq with ⟨c5, hq⟩ | ⟨c5, hq⟩
        · refine jw_tableIn (tgt := 502) (off := 498) dX10_doOne_4 (by rw [c5]; decide) (by rw [c5]; decide) (by rw [c5]; rfl) (by decide) ?_
          exact l_X10_doOne_b502  hq
        · rcases jw_if hq with ⟨c6, hq⟩ | ⟨c6, hq⟩
          · refine jw_tableIn (tgt := 502) (off := 498) dX10_doOne_4 (by rw [c6]; decide) (by rw [c6]; decide) (by rw [c6]; rfl) (by decide) ?_
            exact l_X10_doOne_b502  hq
          · rcases jw_if hq with ⟨c7, hq⟩ | ⟨c7, hq⟩
            · refine jw_tableIn (tgt := 502) (off := 498) dX10_doOne_4 (by rw [c7]; decide) (by rw [c7]; decide) (by rw [c7]; rfl) (by decide) ?_
              exact l_X10_doOne_b502  hq
            · rcases jw_if hq with ⟨c8, hq⟩ | ⟨c8, hq⟩
              · refine jw_tableIn (tgt := 502) (off := 498) dX10_doOne_4 (by rw [c8]; decide) (by rw [c8]; decide) (by rw [c8]; rfl) (by decide) ?_
                exact l_X10_doOne_b502  hq
              · rcases jw_if hq with ⟨c9, hq⟩ | ⟨c9, hq⟩
                · refine jw_tableIn (tgt := 502) (off := 498) dX10_doOne_4 (by rw [c9]; decide) (by rw [c9]; decide) (by rw [c9]; rfl) (by decide) ?_
                  exact l_X10_doOne_b502  hq
                · rcases jw_if hq with ⟨c10, hq⟩ | ⟨c10, hq⟩
                  · refine jw_tableIn (tgt := 502) (off := 498) dX10_doOne_4 (by rw [c10]; decide) (by rw [c10]; decide) (by rw [c10]; rfl) (by decide) ?_
                    exact l_X10_doOne_b502  hq
                  · rcases jw_if hq with ⟨c11, hq⟩ | ⟨c11, hq⟩
                    · refine jw_tableIn (tgt := 502) (off := 498) dX10_doOne_4 (by rw [c11]; decide) (by rw [c11]; decide) (by rw [c11]; rfl) (by decide) ?_
                      exact l_X10_doOne_b502  hq
                    · rcases jw_if hq with ⟨c12, hq⟩ | ⟨c12, hq⟩
                      · refine jw_tableIn (tgt := 502) (off := 498) dX10_doOne_4 (by rw [c12]; decide) (by rw [c12]; decide) (by rw [c12]; rfl) (by decide) ?_
                        exact l_X10_doOne_b502  hq
                      · rcases jw_if hq with ⟨c13, hq⟩ | ⟨c13, hq⟩
                        · refine jw_tableIn (tgt := 502) (off := 498) dX10_doOne_4 (by rw [c13]; decide) (by rw [c13]; decide) (by rw [c13]; rfl) (by decide) ?_
                          exact l_X10_doOne_b502  hq
                        · rcases jw_if hq with ⟨c14, hq⟩ | ⟨c14, hq⟩
                          · refine jw_tableIn (tgt := 502) (off := 498) dX10_doOne_4 (by rw [c14]; decide) (by rw [c14]; decide) (by rw [c14]; rfl) (by decide) ?_
                            exact l_X10_doOne_b502  hq
                          · rcases jw_if hq with ⟨c15, hq⟩ | ⟨c15, hq⟩
                            · refine jw_tableIn (tgt := 502) (off := 498) dX10_doOne_4 (by rw [c15]; decide) (by rw [c15]; decide) (by rw [c15]; rfl) (by decide) ?_
                              exact l_X10_doOne_b502  hq
                            · rcases jw_if hq with ⟨c16, hq⟩ | ⟨c16, hq⟩
                              · refine jw_tableIn (tgt := 502) (off := 498) dX10_doOne_4 (by rw [c16]; decide) (by rw [c16]; decide) (by rw [c16]; rfl) (by decide) ?_
                                exact l_X10_doOne_b502  hq
                              · rcases jw_if hq with ⟨c17, hq⟩ | ⟨c17, hq⟩
                                · refine jw_tableIn (tgt := 502) (off := 498) dX10_doOne_4 (by rw [c17]; decide) (by rw [c17]; decide) (by rw [c17]; rfl) (by decide) ?_
                                  exact l_X10_doOne_b502  hq
                                · rcases jw_if hq with ⟨c18, hq⟩ | ⟨c18, hq⟩
                                  · refine jw_tableIn (tgt := 502) (off := 498) dX10_doOne_4 (by rw [c18]; decide) (by rw [c18]; decide) (by rw [c18]; rfl) (by decide) ?_
                                    exact l_X10_doOne_b502  hq
                                  · rcases jw_if hq with ⟨c19, hq⟩ | ⟨c19, hq⟩
                                    · refine jw_tableIn (tgt := 502) (off := 498) dX10_doOne_4 (by rw [c19]; decide) (by rw [c19]; decide) (by rw [c19]; rfl) (by decide) ?_
                                      exact l_X10_doOne_b502  hq
                                    · rcases jw_if hq with ⟨c20, hq⟩ | ⟨c20, hq⟩
                                      · refine jw_tableIn (tgt := 502) (off := 498) dX10_doOne_4 (by rw [c20]; decide) (by rw [c20]; decide) (by rw [c20]; rfl) (by decide) ?_
                                        exact l_X10_doOne_b502  hq
                                      · rcases jw_if hq with ⟨c21, hq⟩ | ⟨c21, hq⟩
                                        · refine jw_tableIn (tgt := 479) (off := 475) dX10_doOne_4 (by rw [c21]; decide) (by rw [c21]; decide) (by rw [c21]; rfl) (by decide) ?_
                                          exact l_X10_doOne_b479  hq
                                        · rcases jw_if hq with ⟨c22, hq⟩ | ⟨c22, hq⟩
                                          · refine jw_tableIn (tgt := 502) (off := 498) dX10_doOne_4 (by rw [c22]; decide) (by rw [c22]; decide) (by rw [c22]; rfl) (by decide) ?_
                                            exact l_X10_doOne_b502  hq
                                          · rcases jw_if hq with ⟨c23, hq⟩ | ⟨c23, hq⟩
                                            · refine jw_tableIn (tgt := 502) (off := 498) dX10_doOne_4 (by rw [c23]; decide) (by rw [c23]; decide) (by rw [c23]; rfl) (by decide) ?_
                                              exact l_X10_doOne_b502  hq
                                            · rcases jw_if hq with ⟨c24, hq⟩ | ⟨c24, hq⟩
                                              · refine jw_tableIn (tgt := 502) (off := 498) dX10_doOne_4 (by rw [c24]; decide) (by rw [c24]; decide) (by rw [c24]; rfl) (by decide) ?_
                                                exact l_X10_doOne_b502  hq
                                              · rcases jw_if hq with ⟨c25, hq⟩ | ⟨c25, hq⟩
                                                · refine jw_tableIn (tgt := 502) (off := 498) dX10_doOne_4 (by rw [c25]; decide) (by rw [c25]; decide) (by rw [c25]; rfl) (by decide) ?_
                                                  exact l_X10_doOne_b502  hq
                                                · rcases jw_if hq with ⟨c26, hq⟩ | ⟨c26, hq⟩
                                                  · refine jw_tableIn (tgt := 502) (off := 498) dX10_doOne_4 (by rw [c26]; decide) (by rw [c26]; decide) (by rw [c26]; rfl) (by decide) ?_
                                                    exact l_X10_doOne_b502  hq
                                                  · rcases jw_if hq with ⟨c27, hq⟩ | ⟨c27, hq⟩
                                                    · refine jw_tableIn (tgt := 502) (off := 498) dX10_doOne_4 (by rw [c27]; decide) (by rw [c27]; decide) (by rw [c27]; rfl) (by decide) ?_
                                                      exact l_X10_doOne_b502  hq
                                                    · rcases jw_if hq with ⟨c28, hq⟩ | ⟨c28, hq⟩
                                                      · refine jw_tableIn (tgt := 502) (off := 498) dX10_doOne_4 (by rw [c28]; decide) (by rw [c28]; decide) (by rw [c28]; rfl) (by decide) ?_
                                                        exact l_X10_doOne_b502  hq
                                                      · rcases jw_if hq with ⟨c29, hq⟩ | ⟨c29, hq⟩
                                                        · refine jw_tableIn (tgt := 502) (off := 498) dX10_doOne_4 (by rw [c29]; decide) (by rw [c29]; decide) (by rw [c29]; rfl) (by decide) ?_
                                                          exact l_X10_doOne_b502  hq
                                                        · rcases jw_if hq with ⟨c30, hq⟩ | ⟨c30, hq⟩
                                                          · refine jw_tableIn (tgt := 502) (off := 498) dX10_doOne_4 (by rw [c30]; decide) (by rw [c30]; decide) (by rw [c30]; rfl) (by decide) ?_
                                                            exact l_X10_doOne_b502  hq
                                                          · rcases jw_if hq with ⟨c31, hq⟩ | ⟨c31, hq⟩
                                                            · refine jw_tableIn (tgt := 502) (off := 498) dX10_doOne_4 (by rw [c31]; decide) (by rw [c31]; decide) (by rw [c31]; rfl) (by decide) ?_
                                                              exact l_X10_doOne_b502  hq
                                                            · rcases jw_if hq with ⟨c32, hq⟩ | ⟨c32, hq⟩
                                                              · refine jw_tableIn (tgt := 502) (off := 498) dX10_doOne_4 (by rw [c32]; decide) (by rw [c32]; decide) (by rw [c32]; rfl) (by decide) ?_
                                                                exact l_X10_doOne_b502  hq
                                                              · rcases jw_if hq with ⟨c33, hq⟩ | ⟨c33, hq⟩
                                                                · refine jw_tableIn (tgt := 502) (off := 498) dX10_doOne_4 (by rw [c33]; decide) (by rw [c33]; decide) (by rw [c33]; rfl) (by decide) ?_
                                                                  exact l_X10_doOne_b502  hq
                                                                · rcases jw_if hq with ⟨c34, hq⟩ | ⟨c34, hq⟩
                                                                  · refine jw_tableIn (tgt := 502) (off := 498) dX10_doOne_4 (by rw [c34]; decide) (by rw [c34]; decide) (by rw [c34]; rfl) (by decide) ?_
                                                                    exact l_X10_doOne_b502  hq
                                                                  · rcases jw_if hq with ⟨c35, hq⟩ | ⟨c35, hq⟩
                                                                    · refine jw_tableIn (tgt := 502) (off := 498) dX10_doOne_4 (by rw [c35]; decide) (by rw [c35]; decide) (by rw [c35]; rfl) (by decide) ?_
                                                                      exact l_X10_doOne_b502  hq
                                                                    · rcases jw_if hq with ⟨c36, hq⟩ | ⟨c36, hq⟩
                                                                      · refine jw_tableIn (tgt := 502) (off := 498) dX10_doOne_4 (by rw [c36]; decide) (by rw [c36]; decide) (by rw [c36]; rfl) (by decide) ?_
                                                                        exact l_X10_doOne_b502  hq
                                                                      · rcases jw_if hq with ⟨c37, hq⟩ | ⟨c37, hq⟩
                                                                        · refine jw_tableIn (tgt := 502) (off := 498) dX10_doOne_4 (by rw [c37]; decide) (by rw [c37]; decide) (by rw [c37]; rfl) (by decide) ?_
                                                                          exact l_X10_doOne_b502  hq
                                                                        · rcases jw_if hq with ⟨c38, hq⟩ | ⟨c38, hq⟩
                                                                          · refine jw_tableIn (tgt := 502) (off := 498) dX10_doOne_4 (by rw [c38]; decide) (by rw [c38]; decide) (by rw [c38]; rfl) (by decide) ?_
                                                                            exact l_X10_doOne_b502  hq
                                                                          · rcases jw_if hq with ⟨c39, hq⟩ | ⟨c39, hq⟩
                                                                            · refine jw_tableIn (tgt := 309) (off := 305) dX10_doOne_4 (by rw [c39]; decide) (by rw [c39]; decide) (by rw [c39]; rfl) (by decide) ?_
                                                                              exact l_X10_doOne_b309  hq
                                                                            · rcases jw_if hq with ⟨c40, hq⟩ | ⟨c40, hq⟩
                                                                              · refine jw_tableIn (tgt := 502) (off := 498) dX10_doOne_4 (by rw [c40]; decide) (by rw [c40]; decide) (by rw [c40]; rfl) (by decide) ?_
                                                                                exact l_X10_doOne_b502  hq
                                                                              · rcases jw_if hq with ⟨c41, hq⟩ | ⟨c41, hq⟩
                                                                                · refine jw_tableIn (tgt := 309) (off := 305) dX10_doOne_4 (by rw [c41]; decide) (by rw [c41]; decide) (by rw [c41]; rfl) (by decide) ?_
                                                                                  exact l_X10_doOne_b309  hq
                                                                                · rcases jw_if hq with ⟨c42, hq⟩ | ⟨c42, hq⟩
                                                                                  · refine jw_tableIn (tgt := 386) (off := 382) dX10_doOne_4 (by rw [c42]; decide) (by rw [c42]; decide) (by rw [c42]; rfl) (by decide) ?_
                                                                                    refine jw_aload_n dX10_doOne_386 (o := (some x0)) rfl ?_
                                                                                    obtain ⟨v43, ev43, hq⟩ := Option.bind_eq_some_iff.mp hq
                                                                                    refine jw_getR (o := (some x0)) dX10_doOne_387 ev43 fl_X10_15 rfl ?_
                                                                                    refine jw_aload_n dX10_doOne_390 (o := (some x0)) rfl ?_
                                                                                    obtain ⟨v44, ev44, hq⟩ := Option.bind_eq_some_iff.mp hq
                                                                                    refine jw_getI (o := (some x0)) dX10_doOne_391 ev44 fl_X10_138 rfl ?_
                                                                                    refine jw_aload_n dX10_doOne_394 (o := (some x0)) rfl ?_
                                                                                    obtain ⟨v45, ev45, hq⟩ := Option.bind_eq_some_iff.mp hq
                                                                                    refine jw_getI (o := (some x0)) dX10_doOne_395 ev45 fl_X10_141 rfl ?_
                                                                                    refine jw_aload_n dX10_doOne_398 (o := (some x0)) rfl ?_
                                                                                    obtain ⟨v46, ev46, hq⟩ := Option.bind_eq_some_iff.mp hq
                                                                                    refine jw_getI (o := (some x0)) dX10_doOne_399 ev46 fl_X10_138 rfl ?_
                                                                                    refine jw_isub dX10_doOne_402 ?_
                                                                                    refine jw_iconst dX10_doOne_403 (v := (1 : Int32)) (by decide) ?_
                                                                                    refine jw_iadd dX10_doOne_404 ?_
                                                                                    obtain ⟨a47, ea47, hq⟩ := Option.bind_eq_some_iff.mp hq
                                                                                    obtain ⟨eoa47, eta47⟩ := jw_rc_spec ea47
                                                                                    obtain ⟨w49, h48, ew49, hq⟩ := jw_b2_spec hq
                                                                                    refine jw_callV (As := [.int v44, .int ((v45 - v46) + (1 : Int32))]) (S := []) (a := a47) (v := none) dX10_doOne_405 mt_X9_cut in_X9_cut se_X9_cut lk_X10_247 (c_X9_cut ew49) eta47 (by decide) rfl rfl (by decide) (Nat.le_of_ble_eq_true rfl) (by cases eoa47; rfl) ?_
                                                                                    refine jw_aload_n dX10_doOne_408 (o := (some x0)) rfl ?_
                                                                                    obtain ⟨v50, ev50, hq⟩ := Option.bind_eq_some_iff.mp hq
                                                                                    refine jw_getR (o := (some x0)) dX10_doOne_409 ev50 fl_X10_15 rfl ?_
                                                                                    refine jw_aload_n dX10_doOne_412 (o := (some x0)) rfl ?_
                                                                                    obtain ⟨v51, ev51, hq⟩ := Option.bind_eq_some_iff.mp hq
                                                                                    refine jw_getI (o := (some x0)) dX10_doOne_413 ev51 fl_X10_138 rfl ?_
                                                                                    refine jw_aload_n dX10_doOne_416 (o := (some x0)) rfl ?_
                                                                                    obtain ⟨v52, ev52, hq⟩ := Option.bind_eq_some_iff.mp hq
                                                                                    refine jw_getR (o := (some x0)) dX10_doOne_417 ev52 fl_X10_15 rfl ?_
                                                                                    obtain ⟨v53, ev53, hq⟩ := Option.bind_eq_some_iff.mp hq
                                                                                    refine jw_getR (o := v52) dX10_doOne_420 ev53 fl_X10_123 rfl ?_
                                                                                    obtain ⟨v54, ev54, hq⟩ := Option.bind_eq_some_iff.mp hq
                                                                                    refine jw_getI (o := v53) dX10_doOne_423 ev54 fl_X10_126 rfl ?_
                                                                                    obtain ⟨w56, h55, ew56, hq⟩ := jw_b2_spec hq
                                                                                    refine jw_callS (As := [.int v51, .int v54]) (S := [va_rf v50]) (v := some (.int w56)) dX10_doOne_426 mt_J9_min_7cf53 st_J9_min_7cf53 lk_X10_154 (c_J9_min_7cf53 ew56) rfl (by decide) (by simp only [List.map_cons, List.map_nil, List.sum_cons, List.sum_nil, jw_cat_rf, jw_cat_i, jw_cat_l, jw_cat_a, jw_cat_s] <;> decide) rfl ?_
                                                                                    obtain ⟨h57, eh57, hq⟩ := Option.bind_eq_some_iff.mp hq
                                                                                    refine jw_putI (o := v50) dX10_doOne_429 eh57 fl_X10_135 rfl rfl ?_
                                                                                    refine jw_iconst dX10_doOne_432 (v := (0 : Int32)) (by decide) ?_
                                                                                    cases hq
                                                                                    exact jw_iret (ty := .int) dX10_doOne_433 rfl rfl
                                                                                  · rcases jw_if hq with ⟨c58, hq⟩ | ⟨c58, hq⟩
                                                                                    · refine jw_tableIn (tgt := 381) (off := 377) dX10_doOne_4 (by rw [c58]; decide) (by rw [c58]; decide) (by rw [c58]; rfl) (by decide) ?_
                                                                                      refine jw_aload_n dX10_doOne_381 (o := (some x0)) rfl ?_
                                                                                      obtain ⟨a59, ea59, hq⟩ := Option.bind_eq_some_iff.mp hq
                                                                                      obtain ⟨eoa59, eta59⟩ := jw_rc_spec ea59
                                                                                      obtain ⟨w61, h60, ew61, hq⟩ := jw_b2_spec hq
                                                                                      refine jw_callV (As := []) (S := []) (a := a59) (v := some (.int w61)) dX10_doOne_382 mt_X10_exchange in_X10_exchange se_X10_exchange lk_X10_243 (c_X10_exchange ew61) eta59 (by decide) rfl rfl (by decide) (Nat.le_of_ble_eq_true rfl) (by cases eoa59; rfl) ?_
                                                                                      cases hq
                                                                                      exact jw_iret (ty := .int) dX10_doOne_385 rfl rfl
                                                                                    · rcases jw_if hq with ⟨c62, hq⟩ | ⟨c62, hq⟩
                                                                                      · refine jw_tableIn (tgt := 502) (off := 498) dX10_doOne_4 (by rw [c62]; decide) (by rw [c62]; decide) (by rw [c62]; rfl) (by decide) ?_
                                                                                        exact l_X10_doOne_b502  hq
                                                                                      · rcases jw_if hq with ⟨c63, hq⟩ | ⟨c63, hq⟩
                                                                                        · refine jw_tableIn (tgt := 502) (off := 498) dX10_doOne_4 (by rw [c63]; decide) (by rw [c63]; decide) (by rw [c63]; rfl) (by decide) ?_
                                                                                          exact l_X10_doOne_b502  hq
                                                                                        · rcases jw_if hq with ⟨c64, hq⟩ | ⟨c64, hq⟩
                                                                                          · refine jw_tableIn (tgt := 502) (off := 498) dX10_doOne_4 (by rw [c64]; decide) (by rw [c64]; decide) (by rw [c64]; rfl) (by decide) ?_
                                                                                            exact l_X10_doOne_b502  hq
                                                                                          · rcases jw_if hq with ⟨c65, hq⟩ | ⟨c65, hq⟩
                                                                                            · refine jw_tableIn (tgt := 309) (off := 305) dX10_doOne_4 (by rw [c65]; decide) (by rw [c65]; decide) (by rw [c65]; rfl) (by decide) ?_
                                                                                              exact l_X10_doOne_b309  hq
                                                                                            · rcases jw_if hq with ⟨c66, hq⟩ | ⟨c66, hq⟩
                                                                                              · refine jw_tableIn (tgt := 434) (off := 430) dX10_doOne_4 (by rw [c66]; decide) (by rw [c66]; decide) (by rw [c66]; rfl) (by decide) ?_
                                                                                                refine jw_aload_n dX10_doOne_434 (o := (some x0)) rfl ?_
                                                                                                obtain ⟨a67, ea67, hq⟩ := Option.bind_eq_some_iff.mp hq
                                                                                                obtain ⟨eoa67, eta67⟩ := jw_rc_spec ea67
                                                                                                obtain ⟨w69, h68, ew69, hq⟩ := jw_b2_spec hq
                                                                                                refine jw_callV (As := []) (S := []) (a := a67) (v := some (.int w69)) dX10_doOne_435 mt_X10_join in_X10_join se_X10_join lk_X10_251 (c_X10_join ew69) eta67 (by decide) rfl rfl (by decide) (Nat.le_of_ble_eq_true rfl) (by cases eoa67; rfl) ?_
                                                                                                cases hq
                                                                                                exact jw_iret (ty := .int) dX10_doOne_438 rfl rfl
                                                                                              · rcases jw_if hq with ⟨c70, hq⟩ | ⟨c70, hq⟩
                                                                                                · refine jw_tableIn (tgt := 502) (off := 498) dX10_doOne_4 (by rw [c70]; decide) (by rw [c70]; decide) (by rw [c70]; rfl) (by decide) ?_
                                                                                                  exact l_X10_doOne_b502  hq
                                                                                                · rcases jw_if hq with ⟨c71, hq⟩ | ⟨c71, hq⟩
                                                                                                  · refine jw_tableIn (tgt := 448) (off := 444) dX10_doOne_4 (by rw [c71]; decide) (by rw [c71]; decide) (by rw [c71]; rfl) (by decide) ?_
                                                                                                    refine jw_aload_n dX10_doOne_448 (o := (some x0)) rfl ?_
                                                                                                    obtain ⟨a72, ea72, hq⟩ := Option.bind_eq_some_iff.mp hq
                                                                                                    obtain ⟨eoa72, eta72⟩ := jw_rc_spec ea72
                                                                                                    obtain ⟨w74, h73, ew74, hq⟩ := jw_b2_spec hq
                                                                                                    refine jw_callV (As := []) (S := []) (a := a72) (v := some (.int w74)) dX10_doOne_449 mt_X10_leaveOutSame in_X10_leaveOutSame se_X10_leaveOutSame lk_X10_257 (c_X10_leaveOutSame ew74) eta72 (by decide) rfl rfl (by decide) (Nat.le_of_ble_eq_true rfl) (by cases eoa72; rfl) ?_
                                                                                                    cases hq
                                                                                                    exact jw_iret (ty := .int) dX10_doOne_452 rfl rfl
                                                                                                  · rcases jw_if hq with ⟨c75, hq⟩ | ⟨c75, hq⟩
                                                                                                    · refine jw_tableIn (tgt := 453) (off := 449) dX10_doOne_4 (by rw [c75]; decide) (by rw [c75]; decide) (by rw [c75]; rfl) (by decide) ?_
                                                                                                      refine jw_aload_n dX10_doOne_453 (o := (some x0)) rfl ?_
                                                                                                      refine jw_aload_n dX10_doOne_454 (o := (some x0)) rfl ?_
                                                                                                      refine jw_aload_n dX10_doOne_455 (o := x1) rfl ?_
                                                                                                      obtain ⟨v76, ev76, hq⟩ := Option.bind_eq_some_iff.mp hq
                                                                                                      refine jw_getR (o := x1) dX10_doOne_456 ev76 fl_X10_260 rfl ?_
                                                                                                      obtain ⟨a77, ea77, hq⟩ := Option.bind_eq_some_iff.mp hq
                                                                                                      obtain ⟨eoa77, eta77⟩ := jw_rc_spec ea77
                                                                                                      obtain ⟨w79, h78, ew79, hq⟩ := jw_b2_spec hq
                                                                                                      refine jw_callV (As := [va_rf v76]) (S := [.ref x0]) (a := a77) (v := some (.int w79)) dX10_doOne_459 mt_X10_locate in_X10_locate se_X10_locate lk_X10_147 (c_X10_locate ew79) eta77 (by decide) rfl rfl (by decide) (Nat.le_of_ble_eq_true rfl) (by cases eoa77; rfl) ?_
                                                                                                      obtain ⟨a80, ea80, hq⟩ := Option.bind_eq_some_iff.mp hq
                                                                                                      obtain ⟨eoa80, eta80⟩ := jw_rc_spec ea80
                                                                                                      obtain ⟨w82, h81, ew82, hq⟩ := jw_b2_spec hq
                                                                                                      refine jw_callV (As := [.int w79]) (S := []) (a := a80) (v := some (.int w82)) dX10_doOne_462 mt_X10_move in_X10_move se_X10_move lk_X10_263 (c_X10_move ew82) eta80 (by decide) rfl rfl (by decide) (Nat.le_of_ble_eq_true rfl) (by cases eoa80; rfl) ?_
                                                                                                      cases hq
                                                                                                      exact jw_iret (ty := .int) dX10_doOne_465 rfl rfl
                                                                                                    · rcases jw_if hq with ⟨c83, hq⟩ | ⟨c83, hq⟩
                                                                                                      · refine jw_tableIn (tgt := 502) (off := 498) dX10_doOne_4 (by rw [c83]; decide) (by rw [c83]; decide) (by rw [c83]; rfl) (by decide) ?_
                                                                                                        exact l_X10_doOne_b502  hq
                                                                                                      · rcases jw_if hq with ⟨c84, hq⟩ | ⟨c84, hq⟩
                                                                                                        · refine jw_tableIn (tgt := 479) (off := 475) dX10_doOne_4 (by rw [c84]; decide) (by rw [c84]; decide) (by rw [c84]; rfl) (by decide) ?_
                                                                                                          exact l_X10_doOne_b479  hq
                                                                                                        · rcases jw_if hq with ⟨c85, hq⟩ | ⟨c85, hq⟩
                                                                                                          · refine jw_tableIn (tgt := 502) (off := 498) dX10_doOne_4 (by rw [c85]; decide) (by rw [c85]; decide) (by rw [c85]; rfl) (by decide) ?_
                                                                                                            exact l_X10_doOne_b502  hq
                                                                                                          · rcases jw_if hq with ⟨c86, hq⟩ | ⟨c86, hq⟩
                                                                                                            · refine jw_tableIn (tgt := 502) (off := 498) dX10_doOne_4 (by rw [c86]; decide) (by rw [c86]; decide) (by rw [c86]; rfl) (by decide) ?_
                                                                                                              exact l_X10_doOne_b502  hq
                                                                                                            · rcases jw_if hq with ⟨c87, hq⟩ | ⟨c87, hq⟩
                                                                                                              · refine jw_tableIn (tgt := 365) (off := 361) dX10_doOne_4 (by rw [c87]; decide) (by rw [c87]; decide) (by rw [c87]; rfl) (by decide) ?_
                                                                                                                refine jw_aload_n dX10_doOne_365 (o := (some x0)) rfl ?_
                                                                                                                refine jw_aload_n dX10_doOne_366 (o := (some x0)) rfl ?_
                                                                                                                obtain ⟨v88, ev88, hq⟩ := Option.bind_eq_some_iff.mp hq
                                                                                                                refine jw_getR (o := (some x0)) dX10_doOne_367 ev88 fl_X10_19 rfl ?_
                                                                                                                refine jw_aload_n dX10_doOne_370 (o := x1) rfl ?_
                                                                                                                obtain ⟨v89, ev89, hq⟩ := Option.bind_eq_some_iff.mp hq
                                                                                                                refine jw_getI (o := x1) dX10_doOne_371 ev89 fl_X10_188 rfl ?_
                                                                                                                obtain ⟨a90, ea90, hq⟩ := Option.bind_eq_some_iff.mp hq
                                                                                                                obtain ⟨eoa90, eta90⟩ := jw_rc_spec ea90
                                                                                                                obtain ⟨w92, h91, ew92, hq⟩ := jw_b2_spec hq
                                                                                                                refine jw_callV (As := [.int v89]) (S := [.ref x0]) (a := a90) (v := some (va_rf w92)) dX10_doOne_374 mt_X8_file in_X8_file se_X8_file lk_X10_235 (c_X8_file ew92) eta90 (by decide) rfl rfl (by decide) (Nat.le_of_ble_eq_true rfl) (by cases eoa90; rfl) ?_
                                                                                                                obtain ⟨a93, ea93, hq⟩ := Option.bind_eq_some_iff.mp hq
                                                                                                                obtain ⟨eoa93, eta93⟩ := jw_rc_spec ea93
                                                                                                                obtain ⟨w95, h94, ew95, hq⟩ := jw_b2_spec hq
                                                                                                                refine jw_callV (As := [va_rf w92]) (S := []) (a := a93) (v := some (.int w95)) dX10_doOne_377 mt_X10_readFile in_X10_readFile se_X10_readFile lk_X10_239 (c_X10_readFile ew95) eta93 (by decide) rfl rfl (by decide) (Nat.le_of_ble_eq_true rfl) (by cases eoa93; rfl) ?_
                                                                                                                cases hq
                                                                                                                exact jw_iret (ty := .int) dX10_doOne_380 rfl rfl
                                                                                                              · rcases jw_if hq with ⟨c96, hq⟩ | ⟨c96, hq⟩
                                                                                                                · refine jw_tableIn (tgt := 272) (off := 268) dX10_doOne_4 (by rw [c96]; decide) (by rw [c96]; decide) (by rw [c96]; rfl) (by decide) ?_
                                                                                                                  exact l_X10_doOne_b272  hq
                                                                                                                · rcases jw_if hq with ⟨c97, hq⟩ | ⟨c97, hq⟩
                                                                                                                  · refine jw_tableIn (tgt := 466) (off := 462) dX10_doOne_4 (by rw [c97]; decide) (by rw [c97]; decide) (by rw [c97]; rfl) (by decide) ?_
                                                                                                                    refine jw_aload_n dX10_doOne_466 (o := (some x0)) rfl ?_
                                                                                                                    refine jw_aload_n dX10_doOne_467 (o := (some x0)) rfl ?_
                                                                                                                    refine jw_aload_n dX10_doOne_468 (o := x1) rfl ?_
                                                                                                                    obtain ⟨v98, ev98, hq⟩ := Option.bind_eq_some_iff.mp hq
                                                                                                                    refine jw_getR (o := x1) dX10_doOne_469 ev98 fl_X10_260 rfl ?_
                                                                                                                    obtain ⟨a99, ea99, hq⟩ := Option.bind_eq_some_iff.mp hq
                                                                                                                    obtain ⟨eoa99, eta99⟩ := jw_rc_spec ea99
                                                                                                                    obtain ⟨w101, h100, ew101, hq⟩ := jw_b2_spec hq
                                                                                                                    refine jw_callV (As := [va_rf v98]) (S := [.ref x0]) (a := a99) (v := some (.int w101)) dX10_doOne_472 mt_X10_locate in_X10_locate se_X10_locate lk_X10_147 (c_X10_locate ew101) eta99 (by decide) rfl rfl (by decide) (Nat.le_of_ble_eq_true rfl) (by cases eoa99; rfl) ?_
                                                                                                                    obtain ⟨a102, ea102, hq⟩ := Option.bind_eq_some_iff.mp hq
                                                                                                                    obtain ⟨eoa102, eta102⟩ := jw_rc_spec ea102
                                                                                                                    obtain ⟨w104, h103, ew104, hq⟩ := jw_b2_spec hq
                                                                                                                    refine jw_callV (As := [.int w101]) (S := []) (a := a102) (v := some (.int w104)) dX10_doOne_475 mt_X10_copyLines in_X10_copyLines se_X10_copyLines lk_X10_266 (c_X10_copyLines ew104) eta102 (by decide) rfl rfl (by decide) (Nat.le_of_ble_eq_true rfl) (by cases eoa102; rfl) ?_
                                                                                                                    cases hq
                                                                                                                    exact jw_iret (ty := .int) dX10_doOne_478 rfl rfl
                                                                                                                  · rcases jw_if hq with ⟨c105, hq⟩ | ⟨c105, hq⟩
                                                                                                                    · refine jw_tableIn (tgt := 334) (off := 330) dX10_doOne_4 (by rw [c105]; decide) (by rw [c105]; decide) (by rw [c105]; rfl) (by decide) ?_
                                                                                                                      refine jw_aload_n dX10_doOne_334 (o := (some x0)) rfl ?_
                                                                                                                      obtain ⟨v106, ev106, hq⟩ := Option.bind_eq_some_iff.mp hq
                                                                                                                      refine jw_getR (o := (some x0)) dX10_doOne_335 ev106 fl_X10_19 rfl ?_
                                                                                                                      obtain ⟨v107, ev107, hq⟩ := Option.bind_eq_some_iff.mp hq
                                                                                                                      refine jw_getR (o := v106) dX10_doOne_338 ev107 fl_X10_232 rfl ?_
                                                                                                                      obtain ⟨v108, ev108, hq⟩ := Option.bind_eq_some_iff.mp hq
                                                                                                                      refine jw_getI (o := v107) dX10_doOne_341 ev108 fl_X10_126 rfl ?_
                                                                                                                      rcases jw_if hq with ⟨c109, hq⟩ | ⟨c109, hq⟩
                                                                                                                      · refine jw_if_ne_f (tgt := 351) dX10_doOne_344 (by decide) c109 ?_
                                                                                                                        refine jw_iconst dX10_doOne_347 (v := (5 : Int32)) (by decide) ?_
                                                                                                                        refine jw_goto (tgt := 364) dX10_doOne_348 (by decide) ?_
                                                                                                                        refine jw_forget [false, false, true] (L' := [none, none, none]) rfl ?_
                                                                                                                        exact l_X10_doOne_b364  hq
                                                                                                                      · refine jw_if_ne_t (tgt := 351) dX10_doOne_344 (by decide) c109 ?_
                                                                                                                        refine jw_aload_n dX10_doOne_351 (o := (some x0)) rfl ?_
                                                                                                                        refine jw_bipush dX10_doOne_352 (v := (117 : Int32)) (by decide) ?_
                                                                                                                        refine jw_aload_n dX10_doOne_354 (o := (some x0)) rfl ?_
                                                                                                                        obtain ⟨v110, ev110, hq⟩ := Option.bind_eq_some_iff.mp hq
                                                                                                                        refine jw_getR (o := (some x0)) dX10_doOne_355 ev110 fl_X10_19 rfl ?_
                                                                                                                        obtain ⟨v111, ev111, hq⟩ := Option.bind_eq_some_iff.mp hq
                                                                                                                        refine jw_getR (o := v110) dX10_doOne_358 ev111 fl_X10_232 rfl ?_
                                                                                                                        obtain ⟨a112, ea112, hq⟩ := Option.bind_eq_some_iff.mp hq
                                                                                                                        obtain ⟨eoa112, eta112⟩ := jw_rc_spec ea112
                                                                                                                        obtain ⟨w114, h113, ew114, hq⟩ := jw_b2_spec hq
                                                                                                                        refine jw_callV (As := [.int (117 : Int32), va_rf v111]) (S := []) (a := a112) (v := some (.int w114)) dX10_doOne_361 mt_X10_bring in_X10_bring se_X10_bring lk_X10_228 (c_X10_bring ew114) eta112 (by decide) rfl rfl (by decide) (Nat.le_of_ble_eq_true rfl) (by cases eoa112; rfl) ?_
                                                                                                                        refine jw_forget [false, false, true] (L' := [none, none, none]) rfl ?_
                                                                                                                        exact l_X10_doOne_b364  hq
                                                                                                                    · rcases jw_if hq with ⟨c115, hq⟩ | ⟨c115, hq⟩
                                                                                                                      · refine jw_tableIn (tgt := 439) (off := 435) dX10_doOne_4 (by rw [c115]; decide) (by rw [c115]; decide) (by rw [c115]; rfl) (by decide) ?_
                                                                                                                        refine jw_aload_n dX10_doOne_439 (o := (some x0)) rfl ?_
                                                                                                                        refine jw_aload_n dX10_doOne_440 (o := x1) rfl ?_
                                                                                                                        obtain ⟨v116, ev116, hq⟩ := Option.bind_eq_some_iff.mp hq
                                                                                                                        refine jw_getI (o := x1) dX10_doOne_441 ev116 fl_X10_188 rfl ?_
                                                                                                                        obtain ⟨a117, ea117, hq⟩ := Option.bind_eq_some_iff.mp hq
                                                                                                                        obtain ⟨eoa117, eta117⟩ := jw_rc_spec ea117
                                                                                                                        obtain ⟨w119, h118, ew119, hq⟩ := jw_b2_spec hq
                                                                                                                        refine jw_callV (As := [.int v116]) (S := []) (a := a117) (v := some (.int w119)) dX10_doOne_444 mt_X10_part in_X10_part se_X10_part lk_X10_254 (c_X10_part ew119) eta117 (by decide) rfl rfl (by decide) (Nat.le_of_ble_eq_true rfl) (by cases eoa117; rfl) ?_
                                                                                                                        cases hq
                                                                                                                        exact jw_iret (ty := .int) dX10_doOne_447 rfl rfl
                                                                                                                      · rcases jw_if hq with ⟨c120, hq⟩ | ⟨c120, hq⟩
                                                                                                                        · refine jw_tableIn (tgt := 502) (off := 498) dX10_doOne_4 (by rw [c120]; decide) (by rw [c120]; decide) (by rw [c120]; rfl) (by decide) ?_
                                                                                                                          exact l_X10_doOne_b502  hq
                                                                                                                        · rcases jw_if hq with ⟨c121, hq⟩ | ⟨c121, hq⟩
                                                                                                                          · refine jw_tableIn (tgt := 502) (off := 498) dX10_doOne_4 (by rw [c121]; decide) (by rw [c121]; decide) (by rw [c121]; rfl) (by decide) ?_
                                                                                                                            exact l_X10_doOne_b502  hq
                                                                                                                          · rcases jw_if hq with ⟨c122, hq⟩ | ⟨c122, hq⟩
                                                                                                                            · refine jw_tableIn (tgt := 502) (off := 498) dX10_doOne_4 (by rw [c122]; decide) (by rw [c122]; decide) (by rw [c122]; rfl) (by decide) ?_
                                                                                                                              exact l_X10_doOne_b502  hq
                                                                                                                            · rcases jw_if hq with ⟨c123, hq⟩ | ⟨c123, hq⟩
                                                                                                                              · refine jw_tableIn (tgt := 272) (off := 268) dX10_doOne_4 (by rw [c123]; decide) (by rw [c123]; decide) (by rw [c123]; rfl) (by decide) ?_
                                                                                                                                exact l_X10_doOne_b272  hq
                                                                                                                              · refine jw_tableOut (tgt := 502) dX10_doOne_4 (by have z0 : ¬ (v1).toInt = 60 := lv_neT c2 rfl; have z1 : ¬ (v1).toInt = 61 := lv_neT c3 rfl; have z2 : ¬ (v1).toInt = 62 := lv_neT c4 rfl; have z3 : ¬ (v1).toInt = 63 := lv_neT c5 rfl; have z4 : ¬ (v1).toInt = 64 := lv_neT c6 rfl; have z5 : ¬ (v1).toInt = 65 := lv_neT c7 rfl; have z6 : ¬ (v1).toInt = 66 := lv_neT c8 rfl; have z7 : ¬ (v1).toInt = 67 := lv_neT c9 rfl; have z8 : ¬ (v1).toInt = 68 := lv_neT c10 rfl; have z9 : ¬ (v1).toInt = 69 := lv_neT c11 rfl; have z10 : ¬ (v1).toInt = 70 := lv_neT c12 rfl; have z11 : ¬ (v1).toInt = 71 := lv_neT c13 rfl; have z12 : ¬ (v1).toInt = 72 := lv_neT c14 rfl; have z13 : ¬ (v1).toInt = 73 := lv_neT c15 rfl; have z14 : ¬ (v1).toInt = 74 := lv_neT c16 rfl; have z15 : ¬ (v1).toInt = 75 := lv_neT c17 rfl; have z16 : ¬ (v1).toInt = 76 := lv_neT c18 rfl; have z17 : ¬ (v1).toInt = 77 := lv_neT c19 rfl; have z18 : ¬ (v1).toInt = 78 := lv_neT c20 rfl; have z19 : ¬ (v1).toInt = 79 := lv_neT c21 rfl; have z20 : ¬ (v1).toInt = 80 := lv_neT c22 rfl; have z21 : ¬ (v1).toInt = 81 := lv_neT c23 rfl; have z22 : ¬ (v1).toInt = 82 := lv_neT c24 rfl; have z23 : ¬ (v1).toInt = 83 := lv_neT c25 rfl; have z24 : ¬ (v1).toInt = 84 := lv_neT c26 rfl; have z25 : ¬ (v1).toInt = 85 := lv_neT c27 rfl; have z26 : ¬ (v1).toInt = 86 := lv_neT c28 rfl; have z27 : ¬ (v1).toInt = 87 := lv_neT c29 rfl; have z28 : ¬ (v1).toInt = 88 := lv_neT c30 rfl; have z29 : ¬ (v1).toInt = 89 := lv_neT c31 rfl; have z30 : ¬ (v1).toInt = 90 := lv_neT c32 rfl; have z31 : ¬ (v1).toInt = 91 := lv_neT c33 rfl; have z32 : ¬ (v1).toInt = 92 := lv_neT c34 rfl; have z33 : ¬ (v1).toInt = 93 := lv_neT c35 rfl; have z34 : ¬ (v1).toInt = 94 := lv_neT c36 rfl; have z35 : ¬ (v1).toInt = 95 := lv_neT c37 rfl; have z36 : ¬ (v1).toInt = 96 := lv_neT c38 rfl; have z37 : ¬ (v1).toInt = 97 := lv_neT c39 rfl; have z38 : ¬ (v1).toInt = 98 := lv_neT c40 rfl; have z39 : ¬ (v1).toInt = 99 := lv_neT c41 rfl; have z40 : ¬ (v1).toInt = 100 := lv_neT c42 rfl; have z41 : ¬ (v1).toInt = 101 := lv_neT c58 rfl; have z42 : ¬ (v1).toInt = 102 := lv_neT c62 rfl; have z43 : ¬ (v1).toInt = 103 := lv_neT c63 rfl; have z44 : ¬ (v1).toInt = 104 := lv_neT c64 rfl; have z45 : ¬ (v1).toInt = 105 := lv_neT c65 rfl; have z46 : ¬ (v1).toInt = 106 := lv_neT c66 rfl; have z47 : ¬ (v1).toInt = 107 := lv_neT c70 rfl; have z48 : ¬ (v1).toInt = 108 := lv_neT c71 rfl; have z49 : ¬ (v1).toInt = 109 := lv_neT c75 rfl; have z50 : ¬ (v1).toInt = 110 := lv_neT c83 rfl; have z51 : ¬ (v1).toInt = 111 := lv_neT c84 rfl; have z52 : ¬ (v1).toInt = 112 := lv_neT c85 rfl; have z53 : ¬ (v1).toInt = 113 := lv_neT c86 rfl; have z54 : ¬ (v1).toInt = 114 := lv_neT c87 rfl; have z55 : ¬ (v1).toInt = 115 := lv_neT c96 rfl; have z56 : ¬ (v1).toInt = 116 := lv_neT c97 rfl; have z57 : ¬ (v1).toInt = 117 := lv_neT c105 rfl; have z58 : ¬ (v1).toInt = 118 := lv_neT c115 rfl; have z59 : ¬ (v1).toInt = 119 := lv_neT c120 rfl; have z60 : ¬ (v1).toInt = 120 := lv_neT c121 rfl; have z61 : ¬ (v1).toInt = 121 := lv_neT c122 rfl; have z62 : ¬ (v1).toInt = 122 := lv_neT c123 rfl; omega) (by decide) ?_
                                                                                                                                exact l_X10_doOne_b502  hq

theorem c_X10_doOne {h : jw_H} {x0 : Nat} {x1 : Option Nat} {r : Int32} {h' : jw_H} (hq : f_X10_doOne h x0 x1 = some (r, h')) : jw_Con (Cond.code yX10_doOne cX10_doOne 3 (some .int)) yX10_doOne 10 [.ref x0, va_rf x1] h (.inl (some (.int r))) h' :=
  jw_con false (plainFor_of_name (by decide +kernel)) (fun z => nomatch z) (by simp [jw_ent, jw_sl0_nil, jw_sl0_int, jw_sl0_long, jw_sl0_ref, jw_sl0_rf, jw_sl0_scr, List.replicate]) (by simp [jw_sl0_nil, jw_sl0_int, jw_sl0_long, jw_sl0_ref, jw_sl0_rf, jw_sl0_scr]) (l_X10_doOne hq)


/-! X10_doGroup -/
noncomputable def g_X10_doGroup_b171 (k18 : jw_H → Nat → Option Nat → Int32 → Int32 → Option (Int32 × jw_H)) (h : jw_H) (x0 : Nat) (x1 : Option Nat) (x2 : Int32) (x3 : Int32) : Option (Int32 × jw_H) :=
 k18 h x0 x1 x2 (x3 + (1 : Int32))

noncomputable def g_X10_doGroup_b146 (k73 : jw_H → Nat → Option Nat → Int32 → Int32 → Int32 → Option (Int32 × jw_H)) (h : jw_H) (x0 : Nat) (x1 : Option Nat) (x2 : Int32) (x3 : Int32) (x5 : Int32) (x7 : Int32) : Option (Int32 × jw_H) :=
 if x7 = 0 then (k73 h x0 x1 x2 x3 (x5 + (1 : Int32)))
 else ((jw_gR h 10 (some x0) 2).bind fun v2 =>
 (jw_gR h 10 (some x0) 3).bind fun v3 =>
 (jw_rc h 8 v2).bind fun a4 =>
 jw_b2 (f_X8_copy h a4 v3) fun w6 h5 =>
 some (x7, h5))

noncomputable def g_X10_doGroup_b131 (k73 : jw_H → Nat → Option Nat → Int32 → Int32 → Int32 → Option (Int32 × jw_H)) (h : jw_H) (x0 : Nat) (x1 : Option Nat) (x2 : Int32) (x3 : Int32) (x5 : Int32) (x6 : Option Nat) (t0 : Int32) : Option (Int32 × jw_H) :=
 if t0 = 0 then ((jw_rc h 10 (some x0)).bind fun a2 =>
 jw_b2 (f_X10_doOne h a2 x6) fun w4 h3 =>
 g_X10_doGroup_b146 k73 h3 x0 x1 x2 x3 x5 w4)
 else (g_X10_doGroup_b146 k73 h x0 x1 x2 x3 x5 t0)

noncomputable def g_X10_doGroup_b73 (k18 : jw_H → Nat → Option Nat → Int32 → Int32 → Option (Int32 × jw_H)) (k73 : jw_H → Nat → Option Nat → Int32 → Int32 → Int32 → Option (Int32 × jw_H)) (h : jw_H) (x0 : Nat) (x1 : Option Nat) (x2 : Int32) (x3 : Int32) (x5 : Int32) : Option (Int32 × jw_H) :=
 (jw_gI h 5 x1 9).bind fun v1 =>
 if v1 ≤ x5 then (g_X10_doGroup_b171 k18 h x0 x1 x2 x3)
 else ((jw_gR h 10 (some x0) 0).bind fun v3 =>
 (jw_rc h 6 v3).bind fun a4 =>
 jw_b2 (f_X6_orderAt h a4 x5) fun w6 h5 =>
 if w6 = none then (g_X10_doGroup_b171 k18 h5 x0 x1 x2 x3)
 else ((jw_gI h5 10 (some x0) 15).bind fun v8 =>
 (jw_pI h5 10 (some x0) 15 (v8 + (1 : Int32))).bind fun h9 =>
 (jw_gI h9 10 (some x0) 15).bind fun v10 =>
 if v10 ≤ (60 : Int32) then ((jw_rc h9 10 (some x0)).bind fun a12 =>
 jw_b2 (f_X10_findRange h9 a12 w6) fun w14 h13 =>
 g_X10_doGroup_b131 k73 h13 x0 x1 x2 x3 x5 w6 w14)
 else (g_X10_doGroup_b131 k73 h9 x0 x1 x2 x3 x5 w6 (7 : Int32))))

noncomputable def f_X10_doGroup_b73 (k18 : jw_H → Nat → Option Nat → Int32 → Int32 → Option (Int32 × jw_H)) (n : Nat) : jw_H → Nat → Option Nat → Int32 → Int32 → Int32 → Option (Int32 × jw_H) :=
 Nat.rec (fun _ _ _ _ _ _ => none) (fun _ k73 => g_X10_doGroup_b73 k18 k73) n

noncomputable def g_X10_doGroup_b18 (k18 : jw_H → Nat → Option Nat → Int32 → Int32 → Option (Int32 × jw_H)) (h : jw_H) (x0 : Nat) (x1 : Option Nat) (x2 : Int32) (x3 : Int32) : Option (Int32 × jw_H) :=
 (jw_gI h 10 (some x0) 11).bind fun v1 =>
 if v1 ≤ x3 then (some ((0 : Int32), h))
 else ((jw_gR h 10 (some x0) 10).bind fun v3 =>
 (jw_ln h v3).bind fun v4 =>
 if v4 ≤ x3 then (some ((0 : Int32), h))
 else ((jw_gR h 10 (some x0) 1).bind fun v6 =>
 (jw_gR h 10 (some x0) 10).bind fun v7 =>
 (jw_ai h 20 v7 x3).bind fun v8 =>
 (jw_rc h 9 v6).bind fun a9 =>
 jw_b2 (f_X9_numberOf h a9 v8) fun w11 h10 =>
 if w11 = (-1 : Int32) then (g_X10_doGroup_b171 k18 h10 x0 x1 x2 x3)
 else ((jw_gR h10 10 (some x0) 1).bind fun v13 =>
 (jw_pI h10 9 v13 3 w11).bind fun h14 =>
 f_X10_doGroup_b73 k18 jw_FU h14 x0 x1 x2 x3 (x2 + (1 : Int32)))))

noncomputable def f_X10_doGroup_b18 (n : Nat) : jw_H → Nat → Option Nat → Int32 → Int32 → Option (Int32 × jw_H) :=
 Nat.rec (fun _ _ _ _ _ => none) (fun _ k18 => g_X10_doGroup_b18 k18) n

noncomputable def f_X10_doGroup (h : jw_H) (x0 : Nat) (x1 : Option Nat) (x2 : Int32) : Option (Int32 × jw_H) :=
 (jw_rc h 10 (some x0)).bind fun a1 =>
 jw_b2 (f_X10_meet h a1 x1) fun w3 h2 =>
 (jw_gR h2 10 (some x0) 3).bind fun v4 =>
 (jw_gR h2 10 (some x0) 2).bind fun v5 =>
 (jw_rc h2 8 v4).bind fun a6 =>
 jw_b2 (f_X8_copy h2 a6 v5) fun w8 h7 =>
 f_X10_doGroup_b18  jw_FU h7 x0 x1 x2 (0 : Int32)

set_option maxRecDepth 100000 in
set_option maxHeartbeats 4000000 in
theorem l_X10_doGroup_b171 {hi : jw_H} {k18 : jw_H → Nat → Option Nat → Int32 → Int32 → Option (Int32 × jw_H)} (hk18 : ∀ (h : jw_H) (x0 : Nat) (x1 : Option Nat) (x2 : Int32) (x3 : Int32) (r : Int32) (h' : jw_H), k18 h x0 x1 x2 x3 = some (r, h') → jw_E 11 uX10_doGroup hi 18 [some (.ref x0), some (va_rf x1), some (.int x2), some (.int x3), none, none, none, none] [] h (.inl (some (.int r))) h') {h : jw_H} {x0 : Nat} {x1 : Option Nat} {x2 : Int32} {x3 : Int32} {r : Int32} {h' : jw_H} (hq : g_X10_doGroup_b171 k18 h x0 x1 x2 x3 = some (r, h')) : jw_E 11 uX10_doGroup hi 171 [some (.ref x0), some (va_rf x1), some (.int x2), some (.int x3), none, none, none, none] [] h (.inl (some (.int r))) h' := by
  unfold g_X10_doGroup_b171 at hq
  refine jw_iinc (L' := [some (.ref x0), some (va_rf x1), some (.int x2), some (.int (x3 + (1 : Int32))), none, none, none, none]) dX10_doGroup_171 rfl (v := (1 : Int32)) (by decide) (Nat.le_of_ble_eq_true rfl) rfl ?_
  refine jw_goto (tgt := 18) dX10_doGroup_174 (by decide) ?_
  exact hk18 _ _ _ _ _ _ _ hq

set_option maxRecDepth 100000 in
set_option maxHeartbeats 4000000 in
theorem l_X10_doGroup_b146 {hi : jw_H} {k73 : jw_H → Nat → Option Nat → Int32 → Int32 → Int32 → Option (Int32 × jw_H)} (hk73 : ∀ (h : jw_H) (x0 : Nat) (x1 : Option Nat) (x2 : Int32) (x3 : Int32) (x5 : Int32) (r : Int32) (h' : jw_H), k73 h x0 x1 x2 x3 x5 = some (r, h') → jw_E 11 uX10_doGroup hi 73 [some (.ref x0), some (va_rf x1), some (.int x2), some (.int x3), none, some (.int x5), none, none] [] h (.inl (some (.int r))) h') {h : jw_H} {x0 : Nat} {x1 : Option Nat} {x2 : Int32} {x3 : Int32} {x5 : Int32} {x7 : Int32} {r : Int32} {h' : jw_H} (hq : g_X10_doGroup_b146 k73 h x0 x1 x2 x3 x5 x7 = some (r, h')) : jw_E 11 uX10_doGroup hi 146 [some (.ref x0), some (va_rf x1), some (.int x2), some (.int x3), none, some (.int x5), none, some (.int x7)] [] h (.inl (some (.int r))) h' := by
  unfold g_X10_doGroup_b146 at hq
  refine jw_iload dX10_doGroup_146 rfl ?_
  rcases jw_if hq with ⟨c1, hq⟩ | ⟨c1, hq⟩
  · refine jw_if_eq_t (tgt := 165) dX10_doGroup_148 (by decide) c1 ?_
    refine jw_iinc (L' := [some (.ref x0), some (va_rf x1), some (.int x2), some (.int x3), none, some (.int (x5 + (1 : Int32))), none, some (.int x7)]) dX10_doGroup_165 rfl (v := (1 : Int32)) (by decide) (Nat.le_of_ble_eq_true rfl) rfl ?_
    refine jw_goto (tgt := 73) dX10_doGroup_168 (by decide) ?_
    refine jw_forget [true, true, true, true, true, true, true, false] (L' := [some (.ref x0), some (va_rf x1), some (.int x2), some (.int x3), none, some (.int (x5 + (1 : Int32))), none, none]) rfl ?_
    exact hk73 _ _ _ _ _ _ _ _ hq
  · refine jw_if_eq_f (tgt := 165) dX10_doGroup_148 (by decide) c1 ?_
    refine jw_aload_n dX10_doGroup_151 (o := (some x0)) rfl ?_
    obtain ⟨v2, ev2, hq⟩ := Option.bind_eq_some_iff.mp hq
    refine jw_getR (o := (some x0)) dX10_doGroup_152 ev2 fl_X10_19 rfl ?_
    refine jw_aload_n dX10_doGroup_155 (o := (some x0)) rfl ?_
    obtain ⟨v3, ev3, hq⟩ := Option.bind_eq_some_iff.mp hq
    refine jw_getR (o := (some x0)) dX10_doGroup_156 ev3 fl_X10_23 rfl ?_
    obtain ⟨a4, ea4, hq⟩ := Option.bind_eq_some_iff.mp hq
    obtain ⟨eoa4, eta4⟩ := jw_rc_spec ea4
    obtain ⟨w6, h5, ew6, hq⟩ := jw_b2_spec hq
    refine jw_callV (As := [va_rf v3]) (S := []) (a := a4) (v := none) dX10_doGroup_159 mt_X8_copy in_X8_copy se_X8_copy lk_X10_198 (c_X8_copy ew6) eta4 (by decide) rfl rfl (by decide) (Nat.le_of_ble_eq_true rfl) (by cases eoa4; rfl) ?_
    refine jw_iload dX10_doGroup_162 rfl ?_
    cases hq
    exact jw_iret (ty := .int) dX10_doGroup_164 rfl rfl

set_option maxRecDepth 100000 in
set_option maxHeartbeats 4000000 in
theorem l_X10_doGroup_b131 {hi : jw_H} {k73 : jw_H → Nat → Option Nat → Int32 → Int32 → Int32 → Option (Int32 × jw_H)} (hk73 : ∀ (h : jw_H) (x0 : Nat) (x1 : Option Nat) (x2 : Int32) (x3 : Int32) (x5 : Int32) (r : Int32) (h' : jw_H), k73 h x0 x1 x2 x3 x5 = some (r, h') → jw_E 11 uX10_doGroup hi 73 [some (.ref x0), some (va_rf x1), some (.int x2), some (.int x3), none, some (.int x5), none, none] [] h (.inl (some (.int r))) h') {h : jw_H} {x0 : Nat} {x1 : Option Nat} {x2 : Int32} {x3 : Int32} {x5 : Int32} {x6 : Option Nat} {t0 : Int32} {r : Int32} {h' : jw_H} (hq : g_X10_doGroup_b131 k73 h x0 x1 x2 x3 x5 x6 t0 = some (r, h')) : jw_E 11 uX10_doGroup hi 131 [some (.ref x0), some (va_rf x1), some (.int x2), some (.int x3), none, some (.int x5), some (va_rf x6), none] [.int t0] h (.inl (some (.int r))) h' := by
  unfold g_X10_doGroup_b131 at hq
  refine jw_istore (L' := [some (.ref x0), some (va_rf x1), some (.int x2), some (.int x3), none, some (.int x5), some (va_rf x6), some (.int t0)]) dX10_doGroup_131 (Nat.le_of_ble_eq_true rfl) ((jw_st1_of (j := 6) jw_long_rf).trans rfl) ?_
  refine jw_iload dX10_doGroup_133 rfl ?_
  rcases jw_if hq with ⟨c1, hq⟩ | ⟨c1, hq⟩
  · refine jw_if_ne_f (tgt := 146) dX10_doGroup_135 (by decide) c1 ?_
    refine jw_aload_n dX10_doGroup_138 (o := (some x0)) rfl ?_
    refine jw_aload dX10_doGroup_139 (o := x6) rfl ?_
    obtain ⟨a2, ea2, hq⟩ := Option.bind_eq_some_iff.mp hq
    obtain ⟨eoa2, eta2⟩ := jw_rc_spec ea2
    obtain ⟨w4, h3, ew4, hq⟩ := jw_b2_spec hq
    refine jw_callV (As := [va_rf x6]) (S := []) (a := a2) (v := some (.int w4)) dX10_doGroup_141 mt_X10_doOne in_X10_doOne se_X10_doOne lk_X10_111 (c_X10_doOne ew4) eta2 (by decide) rfl rfl (by decide) (Nat.le_of_ble_eq_true rfl) (by cases eoa2; rfl) ?_
    refine jw_istore (L' := [some (.ref x0), some (va_rf x1), some (.int x2), some (.int x3), none, some (.int x5), some (va_rf x6), some (.int w4)]) dX10_doGroup_144 (Nat.le_of_ble_eq_true rfl) ((jw_st1_of (j := 6) jw_long_rf).trans rfl) ?_
    refine jw_forget [true, true, true, true, true, true, false, true] (L' := [some (.ref x0), some (va_rf x1), some (.int x2), some (.int x3), none, some (.int x5), none, some (.int w4)]) rfl ?_
    exact l_X10_doGroup_b146 hk73 hq
  · refine jw_if_ne_t (tgt := 146) dX10_doGroup_135 (by decide) c1 ?_
    refine jw_forget [true, true, true, true, true, true, false, true] (L' := [some (.ref x0), some (va_rf x1), some (.int x2), some (.int x3), none, some (.int x5), none, some (.int t0)]) rfl ?_
    exact l_X10_doGroup_b146 hk73 hq

set_option maxRecDepth 100000 in
set_option maxHeartbeats 4000000 in
theorem l_X10_doGroup_b73g {hi : jw_H} {k18 : jw_H → Nat → Option Nat → Int32 → Int32 → Option (Int32 × jw_H)} (hk18 : ∀ (h : jw_H) (x0 : Nat) (x1 : Option Nat) (x2 : Int32) (x3 : Int32) (r : Int32) (h' : jw_H), k18 h x0 x1 x2 x3 = some (r, h') → jw_E 11 uX10_doGroup hi 18 [some (.ref x0), some (va_rf x1), some (.int x2), some (.int x3), none, none, none, none] [] h (.inl (some (.int r))) h') {k73 : jw_H → Nat → Option Nat → Int32 → Int32 → Int32 → Option (Int32 × jw_H)} (hk73 : ∀ (h : jw_H) (x0 : Nat) (x1 : Option Nat) (x2 : Int32) (x3 : Int32) (x5 : Int32) (r : Int32) (h' : jw_H), k73 h x0 x1 x2 x3 x5 = some (r, h') → jw_E 11 uX10_doGroup hi 73 [some (.ref x0), some (va_rf x1), some (.int x2), some (.int x3), none, some (.int x5), none, none] [] h (.inl (some (.int r))) h') {h : jw_H} {x0 : Nat} {x1 : Option Nat} {x2 : Int32} {x3 : Int32} {x5 : Int32} {r : Int32} {h' : jw_H} (hq : g_X10_doGroup_b73 k18 k73 h x0 x1 x2 x3 x5 = some (r, h')) : jw_E 11 uX10_doGroup hi 73 [some (.ref x0), some (va_rf x1), some (.int x2), some (.int x3), none, some (.int x5), none, none] [] h (.inl (some (.int r))) h' := by
  unfold g_X10_doGroup_b73 at hq
  refine jw_iload dX10_doGroup_73 rfl ?_
  refine jw_aload_n dX10_doGroup_75 (o := x1) rfl ?_
  obtain ⟨v1, ev1, hq⟩ := Option.bind_eq_some_iff.mp hq
  refine jw_getI (o := x1) dX10_doGroup_76 ev1 fl_X10_85 rfl ?_
  rcases jw_if hq with ⟨c2, hq⟩ | ⟨c2, hq⟩
  · refine jw_icmp_ge_t (tgt := 171) dX10_doGroup_79 (by decide) c2 ?_
    refine jw_forget [true, true, true, true, true, false, true, true] (L' := [some (.ref x0), some (va_rf x1), some (.int x2), some (.int x3), none, none, none, none]) rfl ?_
    exact l_X10_doGroup_b171 hk18 hq
  · refine jw_icmp_ge_f (tgt := 171) dX10_doGroup_79 (by decide) c2 ?_
    refine jw_aload_n dX10_doGroup_82 (o := (some x0)) rfl ?_
    obtain ⟨v3, ev3, hq⟩ := Option.bind_eq_some_iff.mp hq
    refine jw_getR (o := (some x0)) dX10_doGroup_83 ev3 fl_X10_9 rfl ?_
    refine jw_iload dX10_doGroup_86 rfl ?_
    obtain ⟨a4, ea4, hq⟩ := Option.bind_eq_some_iff.mp hq
    obtain ⟨eoa4, eta4⟩ := jw_rc_spec ea4
    obtain ⟨w6, h5, ew6, hq⟩ := jw_b2_spec hq
    refine jw_callV (As := [.int x5]) (S := []) (a := a4) (v := some (va_rf w6)) dX10_doGroup_88 mt_X6_orderAt in_X6_orderAt se_X6_orderAt lk_X10_73 (c_X6_orderAt ew6) eta4 (by decide) rfl rfl (by decide) (Nat.le_of_ble_eq_true rfl) (by cases eoa4; rfl) ?_
    refine jw_astore (o := w6) (L' := [some (.ref x0), some (va_rf x1), some (.int x2), some (.int x3), none, some (.int x5), some (va_rf w6), none]) dX10_doGroup_91 (Nat.le_of_ble_eq_true rfl) rfl ?_
    refine jw_aload dX10_doGroup_93 (o := w6) rfl ?_
    rcases jw_if hq with ⟨c7, hq⟩ | ⟨c7, hq⟩
    · refine jw_ifnonnull_f (o := w6) dX10_doGroup_95 c7 ?_
      refine jw_goto (tgt := 171) dX10_doGroup_98 (by decide) ?_
      refine jw_forget [true, true, true, true, true, false, false, true] (L' := [some (.ref x0), some (va_rf x1), some (.int x2), some (.int x3), none, none, none, none]) rfl ?_
      exact l_X10_doGroup_b171 hk18 hq
    · refine jw_ifnonnull_t (o := w6) (tgt := 101) dX10_doGroup_95 (by decide) c7 ?_
      refine jw_aload_n dX10_doGroup_101 (o := (some x0)) rfl ?_
      refine jw_dup dX10_doGroup_102 rfl ?_
      obtain ⟨v8, ev8, hq⟩ := Option.bind_eq_some_iff.mp hq
      refine jw_getI (o := (some x0)) dX10_doGroup_103 ev8 fl_X10_60 rfl ?_
      refine jw_iconst dX10_doGroup_106 (v := (1 : Int32)) (by decide) ?_
      refine jw_iadd dX10_doGroup_107 ?_
      obtain ⟨h9, eh9, hq⟩ := Option.bind_eq_some_iff.mp hq
      refine jw_putI (o := (some x0)) dX10_doGroup_108 eh9 fl_X10_60 rfl rfl ?_
      refine jw_aload_n dX10_doGroup_111 (o := (some x0)) rfl ?_
      obtain ⟨v10, ev10, hq⟩ := Option.bind_eq_some_iff.mp hq
      refine jw_getI (o := (some x0)) dX10_doGroup_112 ev10 fl_X10_60 rfl ?_
      refine jw_bipush dX10_doGroup_115 (v := (60 : Int32)) (by decide) ?_
      rcases jw_if hq with ⟨c11, hq⟩ | ⟨c11, hq⟩
      · refine jw_icmp_le_t (tgt := 125) dX10_doGroup_117 (by decide) c11 ?_
        refine jw_aload_n dX10_doGroup_125 (o := (some x0)) rfl ?_
        refine jw_aload dX10_doGroup_126 (o := w6) rfl ?_
        obtain ⟨a12, ea12, hq⟩ := Option.bind_eq_some_iff.mp hq
        obtain ⟨eoa12, eta12⟩ := jw_rc_spec ea12
        obtain ⟨w14, h13, ew14, hq⟩ := jw_b2_spec hq
        refine jw_callV (As := [va_rf w6]) (S := []) (a := a12) (v := some (.int w14)) dX10_doGroup_128 mt_X10_findRange in_X10_findRange se_X10_findRange lk_X10_93 (c_X10_findRange ew14) eta12 (by decide) rfl rfl (by decide) (Nat.le_of_ble_eq_true rfl) (by cases eoa12; rfl) ?_
        exact l_X10_doGroup_b131 hk73 hq
      · refine jw_icmp_le_f (tgt := 125) dX10_doGroup_117 (by decide) c11 ?_
        refine jw_bipush dX10_doGroup_120 (v := (7 : Int32)) (by decide) ?_
        refine jw_goto (tgt := 131) dX10_doGroup_122 (by decide) ?_
        exact l_X10_doGroup_b131 hk73 hq

theorem l_X10_doGroup_b73 {hi : jw_H} {k18 : jw_H → Nat → Option Nat → Int32 → Int32 → Option (Int32 × jw_H)} (hk18 : ∀ (h : jw_H) (x0 : Nat) (x1 : Option Nat) (x2 : Int32) (x3 : Int32) (r : Int32) (h' : jw_H), k18 h x0 x1 x2 x3 = some (r, h') → jw_E 11 uX10_doGroup hi 18 [some (.ref x0), some (va_rf x1), some (.int x2), some (.int x3), none, none, none, none] [] h (.inl (some (.int r))) h') : ∀ (n : Nat) (h : jw_H) (x0 : Nat) (x1 : Option Nat) (x2 : Int32) (x3 : Int32) (x5 : Int32) (r : Int32) (h' : jw_H), f_X10_doGroup_b73 k18 n h x0 x1 x2 x3 x5 = some (r, h') → jw_E 11 uX10_doGroup hi 73 [some (.ref x0), some (va_rf x1), some (.int x2), some (.int x3), none, some (.int x5), none, none] [] h (.inl (some (.int r))) h' := by
  intro n
  induction n with
  | zero => intro h x0 x1 x2 x3 x5 r h' hq; exact nomatch hq
  | succ n ih => intro h x0 x1 x2 x3 x5 r h' hq; exact l_X10_doGroup_b73g hk18 ih hq

set_option maxRecDepth 100000 in
set_option maxHeartbeats 4000000 in
theorem l_X10_doGroup_b18g {hi : jw_H} {k18 : jw_H → Nat → Option Nat → Int32 → Int32 → Option (Int32 × jw_H)} (hk18 : ∀ (h : jw_H) (x0 : Nat) (x1 : Option Nat) (x2 : Int32) (x3 : Int32) (r : Int32) (h' : jw_H), k18 h x0 x1 x2 x3 = some (r, h') → jw_E 11 uX10_doGroup hi 18 [some (.ref x0), some (va_rf x1), some (.int x2), some (.int x3), none, none, none, none] [] h (.inl (some (.int r))) h') {h : jw_H} {x0 : Nat} {x1 : Option Nat} {x2 : Int32} {x3 : Int32} {r : Int32} {h' : jw_H} (hq : g_X10_doGroup_b18 k18 h x0 x1 x2 x3 = some (r, h')) : jw_E 11 uX10_doGroup hi 18 [some (.ref x0), some (va_rf x1), some (.int x2), some (.int x3), none, none, none, none] [] h (.inl (some (.int r))) h' := by
  unfold g_X10_doGroup_b18 at hq
  refine jw_iload_n dX10_doGroup_18 rfl ?_
  refine jw_aload_n dX10_doGroup_19 (o := (some x0)) rfl ?_
  obtain ⟨v1, ev1, hq⟩ := Option.bind_eq_some_iff.mp hq
  refine jw_getI (o := (some x0)) dX10_doGroup_20 ev1 fl_X10_204 rfl ?_
  rcases jw_if hq with ⟨c2, hq⟩ | ⟨c2, hq⟩
  · refine jw_icmp_ge_t (tgt := 177) dX10_doGroup_23 (by decide) c2 ?_
    refine jw_iconst dX10_doGroup_177 (v := (0 : Int32)) (by decide) ?_
    cases hq
    exact jw_iret (ty := .int) dX10_doGroup_178 rfl rfl
  · refine jw_icmp_ge_f (tgt := 177) dX10_doGroup_23 (by decide) c2 ?_
    refine jw_iload_n dX10_doGroup_26 rfl ?_
    refine jw_aload_n dX10_doGroup_27 (o := (some x0)) rfl ?_
    obtain ⟨v3, ev3, hq⟩ := Option.bind_eq_some_iff.mp hq
    refine jw_getR (o := (some x0)) dX10_doGroup_28 ev3 fl_X10_57 rfl ?_
    obtain ⟨v4, ev4, hq⟩ := Option.bind_eq_some_iff.mp hq
    refine jw_alen (o := v3) dX10_doGroup_31 ev4 ?_
    rcases jw_if hq with ⟨c5, hq⟩ | ⟨c5, hq⟩
    · refine jw_icmp_ge_t (tgt := 177) dX10_doGroup_32 (by decide) c5 ?_
      refine jw_iconst dX10_doGroup_177 (v := (0 : Int32)) (by decide) ?_
      cases hq
      exact jw_iret (ty := .int) dX10_doGroup_178 rfl rfl
    · refine jw_icmp_ge_f (tgt := 177) dX10_doGroup_32 (by decide) c5 ?_
      refine jw_aload_n dX10_doGroup_35 (o := (some x0)) rfl ?_
      obtain ⟨v6, ev6, hq⟩ := Option.bind_eq_some_iff.mp hq
      refine jw_getR (o := (some x0)) dX10_doGroup_36 ev6 fl_X10_15 rfl ?_
      refine jw_aload_n dX10_doGroup_39 (o := (some x0)) rfl ?_
      obtain ⟨v7, ev7, hq⟩ := Option.bind_eq_some_iff.mp hq
      refine jw_getR (o := (some x0)) dX10_doGroup_40 ev7 fl_X10_57 rfl ?_
      refine jw_iload_n dX10_doGroup_43 rfl ?_
      obtain ⟨v8, ev8, hq⟩ := Option.bind_eq_some_iff.mp hq
      refine jw_iald (o := v7) dX10_doGroup_44 ev8 ?_
      obtain ⟨a9, ea9, hq⟩ := Option.bind_eq_some_iff.mp hq
      obtain ⟨eoa9, eta9⟩ := jw_rc_spec ea9
      obtain ⟨w11, h10, ew11, hq⟩ := jw_b2_spec hq
      refine jw_callV (As := [.int v8]) (S := []) (a := a9) (v := some (.int w11)) dX10_doGroup_45 mt_X9_numberOf in_X9_numberOf se_X9_numberOf lk_X10_207 (c_X9_numberOf ew11) eta9 (by decide) rfl rfl (by decide) (Nat.le_of_ble_eq_true rfl) (by cases eoa9; rfl) ?_
      refine jw_istore (L' := [some (.ref x0), some (va_rf x1), some (.int x2), some (.int x3), some (.int w11), none, none, none]) dX10_doGroup_48 (Nat.le_of_ble_eq_true rfl) rfl ?_
      refine jw_iload dX10_doGroup_50 rfl ?_
      refine jw_iconst dX10_doGroup_52 (v := (-1 : Int32)) (by decide) ?_
      rcases jw_if hq with ⟨c12, hq⟩ | ⟨c12, hq⟩
      · refine jw_icmp_ne_f (tgt := 59) dX10_doGroup_53 (by decide) c12 ?_
        refine jw_goto (tgt := 171) dX10_doGroup_56 (by decide) ?_
        refine jw_forget [true, true, true, true, false, true, true, true] (L' := [some (.ref x0), some (va_rf x1), some (.int x2), some (.int x3), none, none, none, none]) rfl ?_
        exact l_X10_doGroup_b171 hk18 hq
      · refine jw_icmp_ne_t (tgt := 59) dX10_doGroup_53 (by decide) c12 ?_
        refine jw_aload_n dX10_doGroup_59 (o := (some x0)) rfl ?_
        obtain ⟨v13, ev13, hq⟩ := Option.bind_eq_some_iff.mp hq
        refine jw_getR (o := (some x0)) dX10_doGroup_60 ev13 fl_X10_15 rfl ?_
        refine jw_iload dX10_doGroup_63 rfl ?_
        obtain ⟨h14, eh14, hq⟩ := Option.bind_eq_some_iff.mp hq
        refine jw_putI (o := v13) dX10_doGroup_65 eh14 fl_X10_135 rfl rfl ?_
        refine jw_iload_n dX10_doGroup_68 rfl ?_
        refine jw_iconst dX10_doGroup_69 (v := (1 : Int32)) (by decide) ?_
        refine jw_iadd dX10_doGroup_70 ?_
        refine jw_istore (L' := [some (.ref x0), some (va_rf x1), some (.int x2), some (.int x3), some (.int w11), some (.int (x2 + (1 : Int32))), none, none]) dX10_doGroup_71 (Nat.le_of_ble_eq_true rfl) rfl ?_
        refine jw_forget [true, true, true, true, false, true, true, true] (L' := [some (.ref x0), some (va_rf x1), some (.int x2), some (.int x3), none, some (.int (x2 + (1 : Int32))), none, none]) rfl ?_
        exact l_X10_doGroup_b73 hk18 jw_FU _ _ _ _ _ _ _ _ hq

theorem l_X10_doGroup_b18 {hi : jw_H} : ∀ (n : Nat) (h : jw_H) (x0 : Nat) (x1 : Option Nat) (x2 : Int32) (x3 : Int32) (r : Int32) (h' : jw_H), f_X10_doGroup_b18  n h x0 x1 x2 x3 = some (r, h') → jw_E 11 uX10_doGroup hi 18 [some (.ref x0), some (va_rf x1), some (.int x2), some (.int x3), none, none, none, none] [] h (.inl (some (.int r))) h' := by
  intro n
  induction n with
  | zero => intro h x0 x1 x2 x3 r h' hq; exact nomatch hq
  | succ n ih => intro h x0 x1 x2 x3 r h' hq; exact l_X10_doGroup_b18g ih hq

set_option maxRecDepth 100000 in
set_option maxHeartbeats 4000000 in
theorem l_X10_doGroup {hi : jw_H} {h : jw_H} {x0 : Nat} {x1 : Option Nat} {x2 : Int32} {r : Int32} {h' : jw_H} (hq : f_X10_doGroup  h x0 x1 x2 = some (r, h')) : jw_E 11 uX10_doGroup hi 0 [some (.ref x0), some (va_rf x1), some (.int x2), none, none, none, none, none] [] h (.inl (some (.int r))) h' := by
  unfold f_X10_doGroup at hq
  refine jw_aload_n dX10_doGroup_0 (o := (some x0)) rfl ?_
  refine jw_aload_n dX10_doGroup_1 (o := x1) rfl ?_
  obtain ⟨a1, ea1, hq⟩ := Option.bind_eq_some_iff.mp hq
  obtain ⟨eoa1, eta1⟩ := jw_rc_spec ea1
  obtain ⟨w3, h2, ew3, hq⟩ := jw_b2_spec hq
  refine jw_callV (As := [va_rf x1]) (S := []) (a := a1) (v := none) dX10_doGroup_2 mt_X10_meet in_X10_meet se_X10_meet lk_X10_194 (c_X10_meet ew3) eta1 (by decide) rfl rfl (by decide) (Nat.le_of_ble_eq_true rfl) (by cases eoa1; rfl) ?_
  refine jw_aload_n dX10_doGroup_5 (o := (some x0)) rfl ?_
  obtain ⟨v4, ev4, hq⟩ := Option.bind_eq_some_iff.mp hq
  refine jw_getR (o := (some x0)) dX10_doGroup_6 ev4 fl_X10_23 rfl ?_
  refine jw_aload_n dX10_doGroup_9 (o := (some x0)) rfl ?_
  obtain ⟨v5, ev5, hq⟩ := Option.bind_eq_some_iff.mp hq
  refine jw_getR (o := (some x0)) dX10_doGroup_10 ev5 fl_X10_19 rfl ?_
  obtain ⟨a6, ea6, hq⟩ := Option.bind_eq_some_iff.mp hq
  obtain ⟨eoa6, eta6⟩ := jw_rc_spec ea6
  obtain ⟨w8, h7, ew8, hq⟩ := jw_b2_spec hq
  refine jw_callV (As := [va_rf v5]) (S := []) (a := a6) (v := none) dX10_doGroup_13 mt_X8_copy in_X8_copy se_X8_copy lk_X10_198 (c_X8_copy ew8) eta6 (by decide) rfl rfl (by decide) (Nat.le_of_ble_eq_true rfl) (by cases eoa6; rfl) ?_
  refine jw_iconst dX10_doGroup_16 (v := (0 : Int32)) (by decide) ?_
  refine jw_istore_n (L' := [some (.ref x0), some (va_rf x1), some (.int x2), some (.int (0 : Int32)), none, none, none, none]) dX10_doGroup_17 (Nat.le_of_ble_eq_true rfl) rfl ?_
  exact l_X10_doGroup_b18  jw_FU _ _ _ _ _ _ _ hq

theorem c_X10_doGroup {h : jw_H} {x0 : Nat} {x1 : Option Nat} {x2 : Int32} {r : Int32} {h' : jw_H} (hq : f_X10_doGroup h x0 x1 x2 = some (r, h')) : jw_Con (Cond.code yX10_doGroup cX10_doGroup 8 (some .int)) yX10_doGroup 11 [.ref x0, va_rf x1, .int x2] h (.inl (some (.int r))) h' :=
  jw_con false (plainFor_of_name (by decide +kernel)) (fun z => nomatch z) (by simp [jw_ent, jw_sl0_nil, jw_sl0_int, jw_sl0_long, jw_sl0_ref, jw_sl0_rf, jw_sl0_scr, List.replicate]) (by simp [jw_sl0_nil, jw_sl0_int, jw_sl0_long, jw_sl0_ref, jw_sl0_rf, jw_sl0_scr]) (l_X10_doGroup hq)


/-! X3_restore -/
noncomputable def g_X3_restore_b18 (h : jw_H) (x0 : Nat) (x1 : Option Nat) : Option (Unit × jw_H) :=
 (jw_gI h 3 (some x0) 4).bind fun v1 =>
 (jw_pI h 9 x1 4 v1).bind fun h2 =>
 some ((), h2)

noncomputable def f_X3_restore (h : jw_H) (x0 : Nat) (x1 : Option Nat) : Option (Unit × jw_H) :=
 (jw_gI h 3 (some x0) 3).bind fun v1 =>
 (jw_rc h 3 (some x0)).bind fun a2 =>
 jw_b2 (f_X3_slot h a2 v1) fun w4 h3 =>
 if w4 = none then (g_X3_restore_b18  h3 x0 x1)
 else ((jw_rc h3 9 x1).bind fun a6 =>
 jw_b2 (f_X9_copy h3 a6 w4) fun w8 h7 =>
 g_X3_restore_b18  h7 x0 x1)

set_option maxRecDepth 100000 in
set_option maxHeartbeats 4000000 in
theorem l_X3_restore_b18 {hi : jw_H} {h : jw_H} {x0 : Nat} {x1 : Option Nat} {r : Unit} {h' : jw_H} (hq : g_X3_restore_b18  h x0 x1 = some (r, h')) : jw_E 3 uX3_restore hi 18 [some (.ref x0), some (va_rf x1), none] [] h (.inl none) h' := by
  unfold g_X3_restore_b18 at hq
  refine jw_aload_n dX3_restore_18 (o := x1) rfl ?_
  refine jw_aload_n dX3_restore_19 (o := (some x0)) rfl ?_
  obtain ⟨v1, ev1, hq⟩ := Option.bind_eq_some_iff.mp hq
  refine jw_getI (o := (some x0)) dX3_restore_20 ev1 fl_X3_50 rfl ?_
  obtain ⟨h2, eh2, hq⟩ := Option.bind_eq_some_iff.mp hq
  refine jw_putI (o := x1) dX3_restore_23 eh2 fl_X3_47 rfl rfl ?_
  cases hq
  exact jw_vret dX3_restore_26 rfl

set_option maxRecDepth 100000 in
set_option maxHeartbeats 4000000 in
theorem l_X3_restore {hi : jw_H} {h : jw_H} {x0 : Nat} {x1 : Option Nat} {r : Unit} {h' : jw_H} (hq : f_X3_restore  h x0 x1 = some (r, h')) : jw_E 3 uX3_restore hi 0 [some (.ref x0), some (va_rf x1), none] [] h (.inl none) h' := by
  unfold f_X3_restore at hq
  refine jw_aload_n dX3_restore_0 (o := (some x0)) rfl ?_
  refine jw_aload_n dX3_restore_1 (o := (some x0)) rfl ?_
  obtain ⟨v1, ev1, hq⟩ := Option.bind_eq_some_iff.mp hq
  refine jw_getI (o := (some x0)) dX3_restore_2 ev1 fl_X3_36 rfl ?_
  obtain ⟨a2, ea2, hq⟩ := Option.bind_eq_some_iff.mp hq
  obtain ⟨eoa2, eta2⟩ := jw_rc_spec ea2
  obtain ⟨w4, h3, ew4, hq⟩ := jw_b2_spec hq
  refine jw_callV (As := [.int v1]) (S := []) (a := a2) (v := some (va_rf w4)) dX3_restore_5 mt_X3_slot in_X3_slot se_X3_slot lk_X3_39 (c_X3_slot ew4) eta2 (by decide) rfl rfl (by decide) (Nat.le_of_ble_eq_true rfl) (by cases eoa2; rfl) ?_
  refine jw_astore_n (o := w4) (L' := [some (.ref x0), some (va_rf x1), some (va_rf w4)]) dX3_restore_8 (Nat.le_of_ble_eq_true rfl) ((jw_st1_of (j := 1) jw_long_rf).trans rfl) ?_
  refine jw_aload_n dX3_restore_9 (o := w4) rfl ?_
  rcases jw_if hq with ⟨c5, hq⟩ | ⟨c5, hq⟩
  · refine jw_ifnull_t (o := w4) (tgt := 18) dX3_restore_10 (by decide) c5 ?_
    refine jw_forget [true, true, false] (L' := [some (.ref x0), some (va_rf x1), none]) rfl ?_
    exact l_X3_restore_b18  hq
  · refine jw_ifnull_f (o := w4) dX3_restore_10 c5 ?_
    refine jw_aload_n dX3_restore_13 (o := x1) rfl ?_
    refine jw_aload_n dX3_restore_14 (o := w4) rfl ?_
    obtain ⟨a6, ea6, hq⟩ := Option.bind_eq_some_iff.mp hq
    obtain ⟨eoa6, eta6⟩ := jw_rc_spec ea6
    obtain ⟨w8, h7, ew8, hq⟩ := jw_b2_spec hq
    refine jw_callV (As := [va_rf w4]) (S := []) (a := a6) (v := none) dX3_restore_15 mt_X9_copy in_X9_copy se_X9_copy lk_X3_43 (c_X9_copy ew8) eta6 (by decide) rfl rfl (by decide) (Nat.le_of_ble_eq_true rfl) (by cases eoa6; rfl) ?_
    refine jw_forget [true, true, false] (L' := [some (.ref x0), some (va_rf x1), none]) rfl ?_
    exact l_X3_restore_b18  hq

theorem c_X3_restore {h : jw_H} {x0 : Nat} {x1 : Option Nat} {r : Unit} {h' : jw_H} (hq : f_X3_restore h x0 x1 = some (r, h')) : jw_Con (Cond.code yX3_restore cX3_restore 3 none) yX3_restore 3 [.ref x0, va_rf x1] h (.inl none) h' :=
  jw_con false (plainFor_of_name (by decide +kernel)) (fun z => nomatch z) (by simp [jw_ent, jw_sl0_nil, jw_sl0_int, jw_sl0_long, jw_sl0_ref, jw_sl0_rf, jw_sl0_scr, List.replicate]) (by simp [jw_sl0_nil, jw_sl0_int, jw_sl0_long, jw_sl0_ref, jw_sl0_rf, jw_sl0_scr]) (l_X3_restore hq)


/-! X5_isDeed -/
noncomputable def g_X5_isDeed_b41 (h : jw_H) (t0 : Int32) : Option (Int32 × jw_H) :=
 (jw_rb t0).bind fun v1 =>
 some (t0, h)

noncomputable def g_X5_isDeed_b40 (h : jw_H)  : Option (Int32 × jw_H) :=
 g_X5_isDeed_b41  h (0 : Int32)

noncomputable def f_X5_isDeed (h : jw_H) (x0 : Nat) : Option (Int32 × jw_H) :=
 (jw_gI h 5 (some x0) 3).bind fun v1 =>
 if v1 = (58 : Int32) then (g_X5_isDeed_b40  h )
 else ((jw_gI h 5 (some x0) 3).bind fun v3 =>
 if v3 = (98 : Int32) then (g_X5_isDeed_b40  h )
 else ((jw_gI h 5 (some x0) 3).bind fun v5 =>
 if v5 = (84 : Int32) then (g_X5_isDeed_b40  h )
 else ((jw_gI h 5 (some x0) 3).bind fun v7 =>
 if v7 = (113 : Int32) then (g_X5_isDeed_b40  h )
 else (g_X5_isDeed_b41  h (1 : Int32)))))

set_option maxRecDepth 100000 in
set_option maxHeartbeats 4000000 in
theorem l_X5_isDeed_b41 {hi : jw_H} {h : jw_H} {t0 : Int32} {r : Int32} {h' : jw_H} (hq : g_X5_isDeed_b41  h t0 = some (r, h')) : jw_E 0 uX5_isDeed hi 41 [none] [.int t0] h (.inl (some (.int r))) h' := by
  unfold g_X5_isDeed_b41 at hq
  obtain ⟨v1, ev1, hq⟩ := Option.bind_eq_some_iff.mp hq
  cases hq
  exact jw_iret (ty := .boolean) dX5_isDeed_41 rfl (jw_rb_spec ev1)

set_option maxRecDepth 100000 in
set_option maxHeartbeats 4000000 in
theorem l_X5_isDeed_b40 {hi : jw_H} {h : jw_H}  {r : Int32} {h' : jw_H} (hq : g_X5_isDeed_b40  h  = some (r, h')) : jw_E 0 uX5_isDeed hi 40 [none] [] h (.inl (some (.int r))) h' := by
  unfold g_X5_isDeed_b40 at hq
  refine jw_iconst dX5_isDeed_40 (v := (0 : Int32)) (by decide) ?_
  exact l_X5_isDeed_b41  hq

set_option maxRecDepth 100000 in
set_option maxHeartbeats 4000000 in
theorem l_X5_isDeed {hi : jw_H} {h : jw_H} {x0 : Nat} {r : Int32} {h' : jw_H} (hq : f_X5_isDeed  h x0 = some (r, h')) : jw_E 0 uX5_isDeed hi 0 [some (.ref x0)] [] h (.inl (some (.int r))) h' := by
  unfold f_X5_isDeed at hq
  refine jw_aload_n dX5_isDeed_0 (o := (some x0)) rfl ?_
  obtain ⟨v1, ev1, hq⟩ := Option.bind_eq_some_iff.mp hq
  refine jw_getI (o := (some x0)) dX5_isDeed_1 ev1 fl_X5_27 rfl ?_
  refine jw_bipush dX5_isDeed_4 (v := (58 : Int32)) (by decide) ?_
  rcases jw_if hq with ⟨c2, hq⟩ | ⟨c2, hq⟩
  · refine jw_icmp_eq_t (tgt := 40) dX5_isDeed_6 (by decide) c2 ?_
    refine jw_forget [false] (L' := [none]) rfl ?_
    exact l_X5_isDeed_b40  hq
  · refine jw_icmp_eq_f (tgt := 40) dX5_isDeed_6 (by decide) c2 ?_
    refine jw_aload_n dX5_isDeed_9 (o := (some x0)) rfl ?_
    obtain ⟨v3, ev3, hq⟩ := Option.bind_eq_some_iff.mp hq
    refine jw_getI (o := (some x0)) dX5_isDeed_10 ev3 fl_X5_27 rfl ?_
    refine jw_bipush dX5_isDeed_13 (v := (98 : Int32)) (by decide) ?_
    rcases jw_if hq with ⟨c4, hq⟩ | ⟨c4, hq⟩
    · refine jw_icmp_eq_t (tgt := 40) dX5_isDeed_15 (by decide) c4 ?_
      refine jw_forget [false] (L' := [none]) rfl ?_
      exact l_X5_isDeed_b40  hq
    · refine jw_icmp_eq_f (tgt := 40) dX5_isDeed_15 (by decide) c4 ?_
      refine jw_aload_n dX5_isDeed_18 (o := (some x0)) rfl ?_
      obtain ⟨v5, ev5, hq⟩ := Option.bind_eq_some_iff.mp hq
      refine jw_getI (o := (some x0)) dX5_isDeed_19 ev5 fl_X5_27 rfl ?_
      refine jw_bipush dX5_isDeed_22 (v := (84 : Int32)) (by decide) ?_
      rcases jw_if hq with ⟨c6, hq⟩ | ⟨c6, hq⟩
      · refine jw_icmp_eq_t (tgt := 40) dX5_isDeed_24 (by decide) c6 ?_
        refine jw_forget [false] (L' := [none]) rfl ?_
        exact l_X5_isDeed_b40  hq
      · refine jw_icmp_eq_f (tgt := 40) dX5_isDeed_24 (by decide) c6 ?_
        refine jw_aload_n dX5_isDeed_27 (o := (some x0)) rfl ?_
        obtain ⟨v7, ev7, hq⟩ := Option.bind_eq_some_iff.mp hq
        refine jw_getI (o := (some x0)) dX5_isDeed_28 ev7 fl_X5_27 rfl ?_
        refine jw_bipush dX5_isDeed_31 (v := (113 : Int32)) (by decide) ?_
        rcases jw_if hq with ⟨c8, hq⟩ | ⟨c8, hq⟩
        · refine jw_icmp_eq_t (tgt := 40) dX5_isDeed_33 (by decide) c8 ?_
          refine jw_forget [false] (L' := [none]) rfl ?_
          exact l_X5_isDeed_b40  hq
        · refine jw_icmp_eq_f (tgt := 40) dX5_isDeed_33 (by decide) c8 ?_
          refine jw_iconst dX5_isDeed_36 (v := (1 : Int32)) (by decide) ?_
          refine jw_goto (tgt := 41) dX5_isDeed_37 (by decide) ?_
          refine jw_forget [false] (L' := [none]) rfl ?_
          exact l_X5_isDeed_b41  hq

theorem c_X5_isDeed {h : jw_H} {x0 : Nat} {r : Int32} {h' : jw_H} (hq : f_X5_isDeed h x0 = some (r, h')) : jw_Con (Cond.code yX5_isDeed cX5_isDeed 1 (some .boolean)) yX5_isDeed 0 [.ref x0] h (.inl (some (.int r))) h' :=
  jw_con false (plainFor_of_name (by decide +kernel)) (fun z => nomatch z) (by simp [jw_ent, jw_sl0_nil, jw_sl0_int, jw_sl0_long, jw_sl0_ref, jw_sl0_rf, jw_sl0_scr, List.replicate]) (by simp [jw_sl0_nil, jw_sl0_int, jw_sl0_long, jw_sl0_ref, jw_sl0_rf, jw_sl0_scr]) (l_X5_isDeed hq)


/-! X3_store -/
noncomputable def g_X3_store_b29 (h : jw_H) (x0 : Nat) : Option (Unit × jw_H) :=
 (jw_gI h 3 (some x0) 3).bind fun v1 =>
 if (40 : Int32) ≤ v1 then ((jw_rc h 3 (some x0)).bind fun a3 =>
 jw_b2 (f_X3_slotOf h a3 (1 : Int32)) fun w5 h4 =>
 (jw_pI h4 3 (some x0) 2 w5).bind fun h6 =>
 some ((), h6))
 else ((jw_gI h 3 (some x0) 3).bind fun v7 =>
 (jw_pI h 3 (some x0) 3 (v7 + (1 : Int32))).bind fun h8 =>
 some ((), h8))

noncomputable def f_X3_store (h : jw_H) (x0 : Nat) (x1 : Int32) : Option (Unit × jw_H) :=
 (jw_gI h 3 (some x0) 3).bind fun v1 =>
 (jw_rc h 3 (some x0)).bind fun a2 =>
 jw_b2 (f_X3_slotOf h a2 v1) fun w4 h3 =>
 if w4 < 0 then (g_X3_store_b29  h3 x0)
 else ((jw_gR h3 3 (some x0) 1).bind fun v6 =>
 (jw_ln h3 v6).bind fun v7 =>
 if v7 ≤ w4 then (g_X3_store_b29  h3 x0)
 else ((jw_gR h3 3 (some x0) 1).bind fun v9 =>
 (jw_si h3 20 v9 w4 x1).bind fun h10 =>
 g_X3_store_b29  h10 x0))

set_option maxRecDepth 100000 in
set_option maxHeartbeats 4000000 in
theorem l_X3_store_b29 {hi : jw_H} {h : jw_H} {x0 : Nat} {r : Unit} {h' : jw_H} (hq : g_X3_store_b29  h x0 = some (r, h')) : jw_E 2 uX3_store hi 29 [some (.ref x0), none, none] [] h (.inl none) h' := by
  unfold g_X3_store_b29 at hq
  refine jw_aload_n dX3_store_29 (o := (some x0)) rfl ?_
  obtain ⟨v1, ev1, hq⟩ := Option.bind_eq_some_iff.mp hq
  refine jw_getI (o := (some x0)) dX3_store_30 ev1 fl_X3_36 rfl ?_
  refine jw_bipush dX3_store_33 (v := (40 : Int32)) (by decide) ?_
  rcases jw_if hq with ⟨c2, hq⟩ | ⟨c2, hq⟩
  · refine jw_icmp_ge_t (tgt := 51) dX3_store_35 (by decide) c2 ?_
    refine jw_aload_n dX3_store_51 (o := (some x0)) rfl ?_
    refine jw_aload_n dX3_store_52 (o := (some x0)) rfl ?_
    refine jw_iconst dX3_store_53 (v := (1 : Int32)) (by decide) ?_
    obtain ⟨a3, ea3, hq⟩ := Option.bind_eq_some_iff.mp hq
    obtain ⟨eoa3, eta3⟩ := jw_rc_spec ea3
    obtain ⟨w5, h4, ew5, hq⟩ := jw_b2_spec hq
    refine jw_callV (As := [.int (1 : Int32)]) (S := [.ref x0]) (a := a3) (v := some (.int w5)) dX3_store_54 mt_X3_slotOf in_X3_slotOf se_X3_slotOf lk_X3_32 (c_X3_slotOf ew5) eta3 (by decide) rfl rfl (by decide) (Nat.le_of_ble_eq_true rfl) (by cases eoa3; rfl) ?_
    obtain ⟨h6, eh6, hq⟩ := Option.bind_eq_some_iff.mp hq
    refine jw_putI (o := (some x0)) dX3_store_57 eh6 fl_X3_22 rfl rfl ?_
    cases hq
    exact jw_vret dX3_store_60 rfl
  · refine jw_icmp_ge_f (tgt := 51) dX3_store_35 (by decide) c2 ?_
    refine jw_aload_n dX3_store_38 (o := (some x0)) rfl ?_
    refine jw_dup dX3_store_39 rfl ?_
    obtain ⟨v7, ev7, hq⟩ := Option.bind_eq_some_iff.mp hq
    refine jw_getI (o := (some x0)) dX3_store_40 ev7 fl_X3_36 rfl ?_
    refine jw_iconst dX3_store_43 (v := (1 : Int32)) (by decide) ?_
    refine jw_iadd dX3_store_44 ?_
    obtain ⟨h8, eh8, hq⟩ := Option.bind_eq_some_iff.mp hq
    refine jw_putI (o := (some x0)) dX3_store_45 eh8 fl_X3_36 rfl rfl ?_
    refine jw_goto (tgt := 60) dX3_store_48 (by decide) ?_
    cases hq
    exact jw_vret dX3_store_60 rfl

set_option maxRecDepth 100000 in
set_option maxHeartbeats 4000000 in
theorem l_X3_store {hi : jw_H} {h : jw_H} {x0 : Nat} {x1 : Int32} {r : Unit} {h' : jw_H} (hq : f_X3_store  h x0 x1 = some (r, h')) : jw_E 2 uX3_store hi 0 [some (.ref x0), some (.int x1), none] [] h (.inl none) h' := by
  unfold f_X3_store at hq
  refine jw_aload_n dX3_store_0 (o := (some x0)) rfl ?_
  refine jw_aload_n dX3_store_1 (o := (some x0)) rfl ?_
  obtain ⟨v1, ev1, hq⟩ := Option.bind_eq_some_iff.mp hq
  refine jw_getI (o := (some x0)) dX3_store_2 ev1 fl_X3_36 rfl ?_
  obtain ⟨a2, ea2, hq⟩ := Option.bind_eq_some_iff.mp hq
  obtain ⟨eoa2, eta2⟩ := jw_rc_spec ea2
  obtain ⟨w4, h3, ew4, hq⟩ := jw_b2_spec hq
  refine jw_callV (As := [.int v1]) (S := []) (a := a2) (v := some (.int w4)) dX3_store_5 mt_X3_slotOf in_X3_slotOf se_X3_slotOf lk_X3_32 (c_X3_slotOf ew4) eta2 (by decide) rfl rfl (by decide) (Nat.le_of_ble_eq_true rfl) (by cases eoa2; rfl) ?_
  refine jw_istore_n (L' := [some (.ref x0), some (.int x1), some (.int w4)]) dX3_store_8 (Nat.le_of_ble_eq_true rfl) rfl ?_
  refine jw_iload_n dX3_store_9 rfl ?_
  rcases jw_if hq with ⟨c5, hq⟩ | ⟨c5, hq⟩
  · refine jw_if_lt_t (tgt := 29) dX3_store_10 (by decide) c5 ?_
    refine jw_forget [true, false, false] (L' := [some (.ref x0), none, none]) rfl ?_
    exact l_X3_store_b29  hq
  · refine jw_if_lt_f (tgt := 29) dX3_store_10 (by decide) c5 ?_
    refine jw_iload_n dX3_store_13 rfl ?_
    refine jw_aload_n dX3_store_14 (o := (some x0)) rfl ?_
    obtain ⟨v6, ev6, hq⟩ := Option.bind_eq_some_iff.mp hq
    refine jw_getR (o := (some x0)) dX3_store_15 ev6 fl_X3_17 rfl ?_
    obtain ⟨v7, ev7, hq⟩ := Option.bind_eq_some_iff.mp hq
    refine jw_alen (o := v6) dX3_store_18 ev7 ?_
    rcases jw_if hq with ⟨c8, hq⟩ | ⟨c8, hq⟩
    · refine jw_icmp_ge_t (tgt := 29) dX3_store_19 (by decide) c8 ?_
      refine jw_forget [true, false, false] (L' := [some (.ref x0), none, none]) rfl ?_
      exact l_X3_store_b29  hq
    · refine jw_icmp_ge_f (tgt := 29) dX3_store_19 (by decide) c8 ?_
      refine jw_aload_n dX3_store_22 (o := (some x0)) rfl ?_
      obtain ⟨v9, ev9, hq⟩ := Option.bind_eq_some_iff.mp hq
      refine jw_getR (o := (some x0)) dX3_store_23 ev9 fl_X3_17 rfl ?_
      refine jw_iload_n dX3_store_26 rfl ?_
      refine jw_iload_n dX3_store_27 rfl ?_
      obtain ⟨h10, eh10, hq⟩ := Option.bind_eq_some_iff.mp hq
      refine jw_iast (o := v9) dX3_store_28 eh10 ?_
      refine jw_forget [true, false, false] (L' := [some (.ref x0), none, none]) rfl ?_
      exact l_X3_store_b29  hq

theorem c_X3_store {h : jw_H} {x0 : Nat} {x1 : Int32} {r : Unit} {h' : jw_H} (hq : f_X3_store h x0 x1 = some (r, h')) : jw_Con (Cond.code yX3_store cX3_store 3 none) yX3_store 2 [.ref x0, .int x1] h (.inl none) h' :=
  jw_con false (plainFor_of_name (by decide +kernel)) (fun z => nomatch z) (by simp [jw_ent, jw_sl0_nil, jw_sl0_int, jw_sl0_long, jw_sl0_ref, jw_sl0_rf, jw_sl0_scr, List.replicate]) (by simp [jw_sl0_nil, jw_sl0_int, jw_sl0_long, jw_sl0_ref, jw_sl0_rf, jw_sl0_scr]) (l_X3_store hq)


/-! X10_perform -/
noncomputable def g_X10_perform_b215 (k25 : jw_H → Nat → Int32 → Int32 → Int32 → Int32 → Option (Int32 × jw_H)) (h : jw_H) (x0 : Nat) (x1 : Int32) (x2 : Int32) (x4 : Int32) : Option (Int32 × jw_H) :=
 (jw_gI h 10 (some x0) 14).bind fun v1 =>
 k25 h x0 x1 (x2 + (1 : Int32)) v1 (x4 + (1 : Int32))

noncomputable def g_X10_perform_b178 (k25 : jw_H → Nat → Int32 → Int32 → Int32 → Int32 → Option (Int32 × jw_H)) (h : jw_H) (x0 : Nat) (x1 : Int32) (x2 : Int32) (x4 : Int32) (x5 : Option Nat) : Option (Int32 × jw_H) :=
 (jw_gI h 10 (some x0) 16).bind fun v1 =>
 if v1 = 0 then ((jw_rc h 5 x5).bind fun a3 =>
 jw_b2 (f_X5_isDeed h a3) fun w5 h4 =>
 if w5 = 0 then (g_X10_perform_b215 k25 h4 x0 x1 x2 x4)
 else ((jw_gR h4 10 (some x0) 6).bind fun v7 =>
 (jw_rc h4 3 v7).bind fun a8 =>
 jw_b2 (f_X3_store h4 a8 x1) fun w10 h9 =>
 g_X10_perform_b215 k25 h9 x0 x1 x2 x4))
 else ((jw_gR h 10 (some x0) 6).bind fun v11 =>
 (jw_gR h 10 (some x0) 1).bind fun v12 =>
 (jw_rc h 3 v11).bind fun a13 =>
 jw_b2 (f_X3_restore h a13 v12) fun w15 h14 =>
 some (x2, h14))

noncomputable def g_X10_perform_b161 (k25 : jw_H → Nat → Int32 → Int32 → Int32 → Int32 → Option (Int32 × jw_H)) (h : jw_H) (x0 : Nat) (x1 : Int32) (x2 : Int32) (x4 : Int32) (x5 : Option Nat) : Option (Int32 × jw_H) :=
 (jw_gI h 10 (some x0) 16).bind fun v1 =>
 if v1 = 0 then ((jw_rc h 10 (some x0)).bind fun a3 =>
 jw_b2 (f_X10_doOne h a3 x5) fun w5 h4 =>
 (jw_pI h4 10 (some x0) 16 w5).bind fun h6 =>
 g_X10_perform_b178 k25 h6 x0 x1 x2 x4 x5)
 else (g_X10_perform_b178 k25 h x0 x1 x2 x4 x5)

noncomputable def g_X10_perform_b132 (k25 : jw_H → Nat → Int32 → Int32 → Int32 → Int32 → Option (Int32 × jw_H)) (h : jw_H) (x0 : Nat) (x1 : Int32) (x2 : Int32) (x3 : Int32) (x4 : Int32) (x5 : Option Nat) : Option (Int32 × jw_H) :=
 (jw_gI h 10 (some x0) 16).bind fun v1 =>
 if v1 = 0 then ((jw_rc h 5 x5).bind fun a3 =>
 jw_b2 (f_X5_holdsOthers h a3) fun w5 h4 =>
 if w5 = 0 then (g_X10_perform_b161 k25 h4 x0 x1 x2 x4 x5)
 else ((jw_rc h4 10 (some x0)).bind fun a7 =>
 jw_b2 (f_X10_doGroup h4 a7 x5 x3) fun w9 h8 =>
 (jw_pI h8 10 (some x0) 16 w9).bind fun h10 =>
 g_X10_perform_b178 k25 h10 x0 x1 x2 x4 x5))
 else (g_X10_perform_b161 k25 h x0 x1 x2 x4 x5)

noncomputable def g_X10_perform_b101 (k25 : jw_H → Nat → Int32 → Int32 → Int32 → Int32 → Option (Int32 × jw_H)) (h : jw_H) (x0 : Nat) (x1 : Int32) (x2 : Int32) (x3 : Int32) (x4 : Int32) (x5 : Option Nat) (t0 : Nat) (t1 : Int32) : Option (Int32 × jw_H) :=
 (jw_pI h 10 (some t0) 16 t1).bind fun h1 =>
 (jw_gI h1 10 (some x0) 16).bind fun v2 =>
 if v2 = 0 then ((jw_rc h1 5 x5).bind fun a4 =>
 jw_b2 (f_X5_steers h1 a4) fun w6 h5 =>
 if w6 = 0 then (g_X10_perform_b132 k25 h5 x0 x1 x2 x3 x4 x5)
 else ((jw_rc h5 10 (some x0)).bind fun a8 =>
 jw_b2 (f_X10_steer h5 a8 x5) fun w10 h9 =>
 (jw_pI h9 10 (some x0) 16 w10).bind fun h11 =>
 g_X10_perform_b178 k25 h11 x0 x1 x2 x4 x5))
 else (g_X10_perform_b132 k25 h1 x0 x1 x2 x3 x4 x5)

noncomputable def g_X10_perform_b25 (k25 : jw_H → Nat → Int32 → Int32 → Int32 → Int32 → Option (Int32 × jw_H)) (h : jw_H) (x0 : Nat) (x1 : Int32) (x2 : Int32) (x3 : Int32) (x4 : Int32) : Option (Int32 × jw_H) :=
 if (60 : Int32) < x4 then (some (x2, h))
 else ((jw_gR h 10 (some x0) 0).bind fun v2 =>
 (jw_rc h 6 v2).bind fun a3 =>
 jw_b2 (f_X6_orderAt h a3 x3) fun w5 h4 =>
 if w5 = none then (some (x2, h4))
 else ((jw_gR h4 10 (some x0) 6).bind fun v7 =>
 (jw_gR h4 10 (some x0) 1).bind fun v8 =>
 (jw_rc h4 3 v7).bind fun a9 =>
 jw_b2 (f_X3_note h4 a9 v8) fun w11 h10 =>
 (jw_gI h10 5 w5 9).bind fun v12 =>
 (jw_pI h10 10 (some x0) 14 v12).bind fun h13 =>
 (jw_gI h13 10 (some x0) 15).bind fun v14 =>
 (jw_pI h13 10 (some x0) 15 (v14 + (1 : Int32))).bind fun h15 =>
 (jw_gI h15 10 (some x0) 15).bind fun v16 =>
 if v16 ≤ (60 : Int32) then ((jw_rc h15 10 (some x0)).bind fun a18 =>
 jw_b2 (f_X10_findRange h15 a18 w5) fun w20 h19 =>
 g_X10_perform_b101 k25 h19 x0 x1 x2 x3 x4 w5 x0 w20)
 else (g_X10_perform_b101 k25 h15 x0 x1 x2 x3 x4 w5 x0 (7 : Int32))))

noncomputable def f_X10_perform_b25 (n : Nat) : jw_H → Nat → Int32 → Int32 → Int32 → Int32 → Option (Int32 × jw_H) :=
 Nat.rec (fun _ _ _ _ _ _ => none) (fun _ k25 => g_X10_perform_b25 k25) n

noncomputable def f_X10_perform (h : jw_H) (x0 : Nat) (x1 : Int32) : Option (Int32 × jw_H) :=
 (jw_pI h 10 (some x0) 15 (0 : Int32)).bind fun h1 =>
 (jw_pI h1 10 (some x0) 16 (0 : Int32)).bind fun h2 =>
 (jw_gR h2 10 (some x0) 5).bind fun v3 =>
 (jw_pB h2 2 v3 5 (0 : Int32)).bind fun h4 =>
 f_X10_perform_b25  jw_FU h4 x0 x1 (0 : Int32) (0 : Int32) (0 : Int32)

set_option maxRecDepth 100000 in
set_option maxHeartbeats 4000000 in
theorem l_X10_perform_b215 {hi : jw_H} {k25 : jw_H → Nat → Int32 → Int32 → Int32 → Int32 → Option (Int32 × jw_H)} (hk25 : ∀ (h : jw_H) (x0 : Nat) (x1 : Int32) (x2 : Int32) (x3 : Int32) (x4 : Int32) (r : Int32) (h' : jw_H), k25 h x0 x1 x2 x3 x4 = some (r, h') → jw_E 12 uX10_perform hi 25 [some (.ref x0), some (.int x1), some (.int x2), some (.int x3), some (.int x4), none] [] h (.inl (some (.int r))) h') {h : jw_H} {x0 : Nat} {x1 : Int32} {x2 : Int32} {x4 : Int32} {r : Int32} {h' : jw_H} (hq : g_X10_perform_b215 k25 h x0 x1 x2 x4 = some (r, h')) : jw_E 12 uX10_perform hi 215 [some (.ref x0), some (.int x1), some (.int x2), none, some (.int x4), none] [] h (.inl (some (.int r))) h' := by
  unfold g_X10_perform_b215 at hq
  refine jw_iinc (L' := [some (.ref x0), some (.int x1), some (.int (x2 + (1 : Int32))), none, some (.int x4), none]) dX10_perform_215 rfl (v := (1 : Int32)) (by decide) (Nat.le_of_ble_eq_true rfl) rfl ?_
  refine jw_aload_n dX10_perform_218 (o := (some x0)) rfl ?_
  obtain ⟨v1, ev1, hq⟩ := Option.bind_eq_some_iff.mp hq
  refine jw_getI (o := (some x0)) dX10_perform_219 ev1 fl_X10_90 rfl ?_
  refine jw_istore_n (L' := [some (.ref x0), some (.int x1), some (.int (x2 + (1 : Int32))), some (.int v1), some (.int x4), none]) dX10_perform_222 (Nat.le_of_ble_eq_true rfl) rfl ?_
  refine jw_iinc (L' := [some (.ref x0), some (.int x1), some (.int (x2 + (1 : Int32))), some (.int v1), some (.int (x4 + (1 : Int32))), none]) dX10_perform_223 rfl (v := (1 : Int32)) (by decide) (Nat.le_of_ble_eq_true rfl) rfl ?_
  refine jw_goto (tgt := 25) dX10_perform_226 (by decide) ?_
  exact hk25 _ _ _ _ _ _ _ _ hq

set_option maxRecDepth 100000 in
set_option maxHeartbeats 4000000 in
theorem l_X10_perform_b178 {hi : jw_H} {k25 : jw_H → Nat → Int32 → Int32 → Int32 → Int32 → Option (Int32 × jw_H)} (hk25 : ∀ (h : jw_H) (x0 : Nat) (x1 : Int32) (x2 : Int32) (x3 : Int32) (x4 : Int32) (r : Int32) (h' : jw_H), k25 h x0 x1 x2 x3 x4 = some (r, h') → jw_E 12 uX10_perform hi 25 [some (.ref x0), some (.int x1), some (.int x2), some (.int x3), some (.int x4), none] [] h (.inl (some (.int r))) h') {h : jw_H} {x0 : Nat} {x1 : Int32} {x2 : Int32} {x4 : Int32} {x5 : Option Nat} {r : Int32} {h' : jw_H} (hq : g_X10_perform_b178 k25 h x0 x1 x2 x4 x5 = some (r, h')) : jw_E 12 uX10_perform hi 178 [some (.ref x0), some (.int x1), some (.int x2), none, some (.int x4), some (va_rf x5)] [] h (.inl (some (.int r))) h' := by
  unfold g_X10_perform_b178 at hq
  refine jw_aload_n dX10_perform_178 (o := (some x0)) rfl ?_
  obtain ⟨v1, ev1, hq⟩ := Option.bind_eq_some_iff.mp hq
  refine jw_getI (o := (some x0)) dX10_perform_179 ev1 fl_X10_64 rfl ?_
  rcases jw_if hq with ⟨c2, hq⟩ | ⟨c2, hq⟩
  · refine jw_if_eq_t (tgt := 199) dX10_perform_182 (by decide) c2 ?_
    refine jw_aload dX10_perform_199 (o := x5) rfl ?_
    obtain ⟨a3, ea3, hq⟩ := Option.bind_eq_some_iff.mp hq
    obtain ⟨eoa3, eta3⟩ := jw_rc_spec ea3
    obtain ⟨w5, h4, ew5, hq⟩ := jw_b2_spec hq
    refine jw_callV (As := []) (S := []) (a := a3) (v := some (.int w5)) dX10_perform_201 mt_X5_isDeed in_X5_isDeed se_X5_isDeed lk_X10_117 (c_X5_isDeed ew5) eta3 (by decide) rfl rfl (by decide) (Nat.le_of_ble_eq_true rfl) (by cases eoa3; rfl) ?_
    rcases jw_if hq with ⟨c6, hq⟩ | ⟨c6, hq⟩
    · refine jw_if_eq_t (tgt := 215) dX10_perform_204 (by decide) c6 ?_
      refine jw_forget [true, true, true, true, true, false] (L' := [some (.ref x0), some (.int x1), some (.int x2), none, some (.int x4), none]) rfl ?_
      exact l_X10_perform_b215 hk25 hq
    · refine jw_if_eq_f (tgt := 215) dX10_perform_204 (by decide) c6 ?_
      refine jw_aload_n dX10_perform_207 (o := (some x0)) rfl ?_
      obtain ⟨v7, ev7, hq⟩ := Option.bind_eq_some_iff.mp hq
      refine jw_getR (o := (some x0)) dX10_perform_208 ev7 fl_X10_34 rfl ?_
      refine jw_iload_n dX10_perform_211 rfl ?_
      obtain ⟨a8, ea8, hq⟩ := Option.bind_eq_some_iff.mp hq
      obtain ⟨eoa8, eta8⟩ := jw_rc_spec ea8
      obtain ⟨w10, h9, ew10, hq⟩ := jw_b2_spec hq
      refine jw_callV (As := [.int x1]) (S := []) (a := a8) (v := none) dX10_perform_212 mt_X3_store in_X3_store se_X3_store lk_X10_120 (c_X3_store ew10) eta8 (by decide) rfl rfl (by decide) (Nat.le_of_ble_eq_true rfl) (by cases eoa8; rfl) ?_
      refine jw_forget [true, true, true, true, true, false] (L' := [some (.ref x0), some (.int x1), some (.int x2), none, some (.int x4), none]) rfl ?_
      exact l_X10_perform_b215 hk25 hq
  · refine jw_if_eq_f (tgt := 199) dX10_perform_182 (by decide) c2 ?_
    refine jw_aload_n dX10_perform_185 (o := (some x0)) rfl ?_
    obtain ⟨v11, ev11, hq⟩ := Option.bind_eq_some_iff.mp hq
    refine jw_getR (o := (some x0)) dX10_perform_186 ev11 fl_X10_34 rfl ?_
    refine jw_aload_n dX10_perform_189 (o := (some x0)) rfl ?_
    obtain ⟨v12, ev12, hq⟩ := Option.bind_eq_some_iff.mp hq
    refine jw_getR (o := (some x0)) dX10_perform_190 ev12 fl_X10_15 rfl ?_
    obtain ⟨a13, ea13, hq⟩ := Option.bind_eq_some_iff.mp hq
    obtain ⟨eoa13, eta13⟩ := jw_rc_spec ea13
    obtain ⟨w15, h14, ew15, hq⟩ := jw_b2_spec hq
    refine jw_callV (As := [va_rf v12]) (S := []) (a := a13) (v := none) dX10_perform_193 mt_X3_restore in_X3_restore se_X3_restore lk_X10_114 (c_X3_restore ew15) eta13 (by decide) rfl rfl (by decide) (Nat.le_of_ble_eq_true rfl) (by cases eoa13; rfl) ?_
    refine jw_goto (tgt := 229) dX10_perform_196 (by decide) ?_
    refine jw_iload_n dX10_perform_229 rfl ?_
    cases hq
    exact jw_iret (ty := .int) dX10_perform_230 rfl rfl

set_option maxRecDepth 100000 in
set_option maxHeartbeats 4000000 in
theorem l_X10_perform_b161 {hi : jw_H} {k25 : jw_H → Nat → Int32 → Int32 → Int32 → Int32 → Option (Int32 × jw_H)} (hk25 : ∀ (h : jw_H) (x0 : Nat) (x1 : Int32) (x2 : Int32) (x3 : Int32) (x4 : Int32) (r : Int32) (h' : jw_H), k25 h x0 x1 x2 x3 x4 = some (r, h') → jw_E 12 uX10_perform hi 25 [some (.ref x0), some (.int x1), some (.int x2), some (.int x3), some (.int x4), none] [] h (.inl (some (.int r))) h') {h : jw_H} {x0 : Nat} {x1 : Int32} {x2 : Int32} {x4 : Int32} {x5 : Option Nat} {r : Int32} {h' : jw_H} (hq : g_X10_perform_b161 k25 h x0 x1 x2 x4 x5 = some (r, h')) : jw_E 12 uX10_perform hi 161 [some (.ref x0), some (.int x1), some (.int x2), none, some (.int x4), some (va_rf x5)] [] h (.inl (some (.int r))) h' := by
  unfold g_X10_perform_b161 at hq
  refine jw_aload_n dX10_perform_161 (o := (some x0)) rfl ?_
  obtain ⟨v1, ev1, hq⟩ := Option.bind_eq_some_iff.mp hq
  refine jw_getI (o := (some x0)) dX10_perform_162 ev1 fl_X10_64 rfl ?_
  rcases jw_if hq with ⟨c2, hq⟩ | ⟨c2, hq⟩
  · refine jw_if_ne_f (tgt := 178) dX10_perform_165 (by decide) c2 ?_
    refine jw_aload_n dX10_perform_168 (o := (some x0)) rfl ?_
    refine jw_aload_n dX10_perform_169 (o := (some x0)) rfl ?_
    refine jw_aload dX10_perform_170 (o := x5) rfl ?_
    obtain ⟨a3, ea3, hq⟩ := Option.bind_eq_some_iff.mp hq
    obtain ⟨eoa3, eta3⟩ := jw_rc_spec ea3
    obtain ⟨w5, h4, ew5, hq⟩ := jw_b2_spec hq
    refine jw_callV (As := [va_rf x5]) (S := [.ref x0]) (a := a3) (v := some (.int w5)) dX10_perform_172 mt_X10_doOne in_X10_doOne se_X10_doOne lk_X10_111 (c_X10_doOne ew5) eta3 (by decide) rfl rfl (by decide) (Nat.le_of_ble_eq_true rfl) (by cases eoa3; rfl) ?_
    obtain ⟨h6, eh6, hq⟩ := Option.bind_eq_some_iff.mp hq
    refine jw_putI (o := (some x0)) dX10_perform_175 eh6 fl_X10_64 rfl rfl ?_
    exact l_X10_perform_b178 hk25 hq
  · refine jw_if_ne_t (tgt := 178) dX10_perform_165 (by decide) c2 ?_
    exact l_X10_perform_b178 hk25 hq

set_option maxRecDepth 100000 in
set_option maxHeartbeats 4000000 in
theorem l_X10_perform_b132 {hi : jw_H} {k25 : jw_H → Nat → Int32 → Int32 → Int32 → Int32 → Option (Int32 × jw_H)} (hk25 : ∀ (h : jw_H) (x0 : Nat) (x1 : Int32) (x2 : Int32) (x3 : Int32) (x4 : Int32) (r : Int32) (h' : jw_H), k25 h x0 x1 x2 x3 x4 = some (r, h') → jw_E 12 uX10_perform hi 25 [some (.ref x0), some (.int x1), some (.int x2), some (.int x3), some (.int x4), none] [] h (.inl (some (.int r))) h') {h : jw_H} {x0 : Nat} {x1 : Int32} {x2 : Int32} {x3 : Int32} {x4 : Int32} {x5 : Option Nat} {r : Int32} {h' : jw_H} (hq : g_X10_perform_b132 k25 h x0 x1 x2 x3 x4 x5 = some (r, h')) : jw_E 12 uX10_perform hi 132 [some (.ref x0), some (.int x1), some (.int x2), some (.int x3), some (.int x4), some (va_rf x5)] [] h (.inl (some (.int r))) h' := by
  unfold g_X10_perform_b132 at hq
  refine jw_aload_n dX10_perform_132 (o := (some x0)) rfl ?_
  obtain ⟨v1, ev1, hq⟩ := Option.bind_eq_some_iff.mp hq
  refine jw_getI (o := (some x0)) dX10_perform_133 ev1 fl_X10_64 rfl ?_
  rcases jw_if hq with ⟨c2, hq⟩ | ⟨c2, hq⟩
  · refine jw_if_ne_f (tgt := 161) dX10_perform_136 (by decide) c2 ?_
    refine jw_aload dX10_perform_139 (o := x5) rfl ?_
    obtain ⟨a3, ea3, hq⟩ := Option.bind_eq_some_iff.mp hq
    obtain ⟨eoa3, eta3⟩ := jw_rc_spec ea3
    obtain ⟨w5, h4, ew5, hq⟩ := jw_b2_spec hq
    refine jw_callV (As := []) (S := []) (a := a3) (v := some (.int w5)) dX10_perform_141 mt_X5_holdsOthers in_X5_holdsOthers se_X5_holdsOthers lk_X10_104 (c_X5_holdsOthers ew5) eta3 (by decide) rfl rfl (by decide) (Nat.le_of_ble_eq_true rfl) (by cases eoa3; rfl) ?_
    rcases jw_if hq with ⟨c6, hq⟩ | ⟨c6, hq⟩
    · refine jw_if_eq_t (tgt := 161) dX10_perform_144 (by decide) c6 ?_
      refine jw_forget [true, true, true, false, true, true] (L' := [some (.ref x0), some (.int x1), some (.int x2), none, some (.int x4), some (va_rf x5)]) rfl ?_
      exact l_X10_perform_b161 hk25 hq
    · refine jw_if_eq_f (tgt := 161) dX10_perform_144 (by decide) c6 ?_
      refine jw_aload_n dX10_perform_147 (o := (some x0)) rfl ?_
      refine jw_aload_n dX10_perform_148 (o := (some x0)) rfl ?_
      refine jw_aload dX10_perform_149 (o := x5) rfl ?_
      refine jw_iload_n dX10_perform_151 rfl ?_
      obtain ⟨a7, ea7, hq⟩ := Option.bind_eq_some_iff.mp hq
      obtain ⟨eoa7, eta7⟩ := jw_rc_spec ea7
      obtain ⟨w9, h8, ew9, hq⟩ := jw_b2_spec hq
      refine jw_callV (As := [va_rf x5, .int x3]) (S := [.ref x0]) (a := a7) (v := some (.int w9)) dX10_perform_152 mt_X10_doGroup in_X10_doGroup se_X10_doGroup lk_X10_107 (c_X10_doGroup ew9) eta7 (by decide) rfl rfl (by decide) (Nat.le_of_ble_eq_true rfl) (by cases eoa7; rfl) ?_
      obtain ⟨h10, eh10, hq⟩ := Option.bind_eq_some_iff.mp hq
      refine jw_putI (o := (some x0)) dX10_perform_155 eh10 fl_X10_64 rfl rfl ?_
      refine jw_goto (tgt := 178) dX10_perform_158 (by decide) ?_
      refine jw_forget [true, true, true, false, true, true] (L' := [some (.ref x0), some (.int x1), some (.int x2), none, some (.int x4), some (va_rf x5)]) rfl ?_
      exact l_X10_perform_b178 hk25 hq
  · refine jw_if_ne_t (tgt := 161) dX10_perform_136 (by decide) c2 ?_
    refine jw_forget [true, true, true, false, true, true] (L' := [some (.ref x0), some (.int x1), some (.int x2), none, some (.int x4), some (va_rf x5)]) rfl ?_
    exact l_X10_perform_b161 hk25 hq

set_option maxRecDepth 100000 in
set_option maxHeartbeats 4000000 in
theorem l_X10_perform_b101 {hi : jw_H} {k25 : jw_H → Nat → Int32 → Int32 → Int32 → Int32 → Option (Int32 × jw_H)} (hk25 : ∀ (h : jw_H) (x0 : Nat) (x1 : Int32) (x2 : Int32) (x3 : Int32) (x4 : Int32) (r : Int32) (h' : jw_H), k25 h x0 x1 x2 x3 x4 = some (r, h') → jw_E 12 uX10_perform hi 25 [some (.ref x0), some (.int x1), some (.int x2), some (.int x3), some (.int x4), none] [] h (.inl (some (.int r))) h') {h : jw_H} {x0 : Nat} {x1 : Int32} {x2 : Int32} {x3 : Int32} {x4 : Int32} {x5 : Option Nat} {t0 : Nat} {t1 : Int32} {r : Int32} {h' : jw_H} (hq : g_X10_perform_b101 k25 h x0 x1 x2 x3 x4 x5 t0 t1 = some (r, h')) : jw_E 12 uX10_perform hi 101 [some (.ref x0), some (.int x1), some (.int x2), some (.int x3), some (.int x4), some (va_rf x5)] [.int t1, .ref t0] h (.inl (some (.int r))) h' := by
  unfold g_X10_perform_b101 at hq
  obtain ⟨h1, eh1, hq⟩ := Option.bind_eq_some_iff.mp hq
  refine jw_putI (o := (some t0)) dX10_perform_101 eh1 fl_X10_64 rfl rfl ?_
  refine jw_aload_n dX10_perform_104 (o := (some x0)) rfl ?_
  obtain ⟨v2, ev2, hq⟩ := Option.bind_eq_some_iff.mp hq
  refine jw_getI (o := (some x0)) dX10_perform_105 ev2 fl_X10_64 rfl ?_
  rcases jw_if hq with ⟨c3, hq⟩ | ⟨c3, hq⟩
  · refine jw_if_ne_f (tgt := 132) dX10_perform_108 (by decide) c3 ?_
    refine jw_aload dX10_perform_111 (o := x5) rfl ?_
    obtain ⟨a4, ea4, hq⟩ := Option.bind_eq_some_iff.mp hq
    obtain ⟨eoa4, eta4⟩ := jw_rc_spec ea4
    obtain ⟨w6, h5, ew6, hq⟩ := jw_b2_spec hq
    refine jw_callV (As := []) (S := []) (a := a4) (v := some (.int w6)) dX10_perform_113 mt_X5_steers in_X5_steers se_X5_steers lk_X10_97 (c_X5_steers ew6) eta4 (by decide) rfl rfl (by decide) (Nat.le_of_ble_eq_true rfl) (by cases eoa4; rfl) ?_
    rcases jw_if hq with ⟨c7, hq⟩ | ⟨c7, hq⟩
    · refine jw_if_eq_t (tgt := 132) dX10_perform_116 (by decide) c7 ?_
      exact l_X10_perform_b132 hk25 hq
    · refine jw_if_eq_f (tgt := 132) dX10_perform_116 (by decide) c7 ?_
      refine jw_aload_n dX10_perform_119 (o := (some x0)) rfl ?_
      refine jw_aload_n dX10_perform_120 (o := (some x0)) rfl ?_
      refine jw_aload dX10_perform_121 (o := x5) rfl ?_
      obtain ⟨a8, ea8, hq⟩ := Option.bind_eq_some_iff.mp hq
      obtain ⟨eoa8, eta8⟩ := jw_rc_spec ea8
      obtain ⟨w10, h9, ew10, hq⟩ := jw_b2_spec hq
      refine jw_callV (As := [va_rf x5]) (S := [.ref x0]) (a := a8) (v := some (.int w10)) dX10_perform_123 mt_X10_steer in_X10_steer se_X10_steer lk_X10_101 (c_X10_steer ew10) eta8 (by decide) rfl rfl (by decide) (Nat.le_of_ble_eq_true rfl) (by cases eoa8; rfl) ?_
      obtain ⟨h11, eh11, hq⟩ := Option.bind_eq_some_iff.mp hq
      refine jw_putI (o := (some x0)) dX10_perform_126 eh11 fl_X10_64 rfl rfl ?_
      refine jw_goto (tgt := 178) dX10_perform_129 (by decide) ?_
      refine jw_forget [true, true, true, false, true, true] (L' := [some (.ref x0), some (.int x1), some (.int x2), none, some (.int x4), some (va_rf x5)]) rfl ?_
      exact l_X10_perform_b178 hk25 hq
  · refine jw_if_ne_t (tgt := 132) dX10_perform_108 (by decide) c3 ?_
    exact l_X10_perform_b132 hk25 hq

set_option maxRecDepth 100000 in
set_option maxHeartbeats 4000000 in
theorem l_X10_perform_b25g {hi : jw_H} {k25 : jw_H → Nat → Int32 → Int32 → Int32 → Int32 → Option (Int32 × jw_H)} (hk25 : ∀ (h : jw_H) (x0 : Nat) (x1 : Int32) (x2 : Int32) (x3 : Int32) (x4 : Int32) (r : Int32) (h' : jw_H), k25 h x0 x1 x2 x3 x4 = some (r, h') → jw_E 12 uX10_perform hi 25 [some (.ref x0), some (.int x1), some (.int x2), some (.int x3), some (.int x4), none] [] h (.inl (some (.int r))) h') {h : jw_H} {x0 : Nat} {x1 : Int32} {x2 : Int32} {x3 : Int32} {x4 : Int32} {r : Int32} {h' : jw_H} (hq : g_X10_perform_b25 k25 h x0 x1 x2 x3 x4 = some (r, h')) : jw_E 12 uX10_perform hi 25 [some (.ref x0), some (.int x1), some (.int x2), some (.int x3), some (.int x4), none] [] h (.inl (some (.int r))) h' := by
  unfold g_X10_perform_b25 at hq
  refine jw_iload dX10_perform_25 rfl ?_
  refine jw_bipush dX10_perform_27 (v := (60 : Int32)) (by decide) ?_
  rcases jw_if hq with ⟨c1, hq⟩ | ⟨c1, hq⟩
  · refine jw_icmp_gt_t (tgt := 229) dX10_perform_29 (by decide) c1 ?_
    refine jw_iload_n dX10_perform_229 rfl ?_
    cases hq
    exact jw_iret (ty := .int) dX10_perform_230 rfl rfl
  · refine jw_icmp_gt_f (tgt := 229) dX10_perform_29 (by decide) c1 ?_
    refine jw_aload_n dX10_perform_32 (o := (some x0)) rfl ?_
    obtain ⟨v2, ev2, hq⟩ := Option.bind_eq_some_iff.mp hq
    refine jw_getR (o := (some x0)) dX10_perform_33 ev2 fl_X10_9 rfl ?_
    refine jw_iload_n dX10_perform_36 rfl ?_
    obtain ⟨a3, ea3, hq⟩ := Option.bind_eq_some_iff.mp hq
    obtain ⟨eoa3, eta3⟩ := jw_rc_spec ea3
    obtain ⟨w5, h4, ew5, hq⟩ := jw_b2_spec hq
    refine jw_callV (As := [.int x3]) (S := []) (a := a3) (v := some (va_rf w5)) dX10_perform_37 mt_X6_orderAt in_X6_orderAt se_X6_orderAt lk_X10_73 (c_X6_orderAt ew5) eta3 (by decide) rfl rfl (by decide) (Nat.le_of_ble_eq_true rfl) (by cases eoa3; rfl) ?_
    refine jw_astore (o := w5) (L' := [some (.ref x0), some (.int x1), some (.int x2), some (.int x3), some (.int x4), some (va_rf w5)]) dX10_perform_40 (Nat.le_of_ble_eq_true rfl) rfl ?_
    refine jw_aload dX10_perform_42 (o := w5) rfl ?_
    rcases jw_if hq with ⟨c6, hq⟩ | ⟨c6, hq⟩
    · refine jw_ifnonnull_f (o := w5) dX10_perform_44 c6 ?_
      refine jw_goto (tgt := 229) dX10_perform_47 (by decide) ?_
      refine jw_iload_n dX10_perform_229 rfl ?_
      cases hq
      exact jw_iret (ty := .int) dX10_perform_230 rfl rfl
    · refine jw_ifnonnull_t (o := w5) (tgt := 50) dX10_perform_44 (by decide) c6 ?_
      refine jw_aload_n dX10_perform_50 (o := (some x0)) rfl ?_
      obtain ⟨v7, ev7, hq⟩ := Option.bind_eq_some_iff.mp hq
      refine jw_getR (o := (some x0)) dX10_perform_51 ev7 fl_X10_34 rfl ?_
      refine jw_aload_n dX10_perform_54 (o := (some x0)) rfl ?_
      obtain ⟨v8, ev8, hq⟩ := Option.bind_eq_some_iff.mp hq
      refine jw_getR (o := (some x0)) dX10_perform_55 ev8 fl_X10_15 rfl ?_
      obtain ⟨a9, ea9, hq⟩ := Option.bind_eq_some_iff.mp hq
      obtain ⟨eoa9, eta9⟩ := jw_rc_spec ea9
      obtain ⟨w11, h10, ew11, hq⟩ := jw_b2_spec hq
      refine jw_callV (As := [va_rf v8]) (S := []) (a := a9) (v := none) dX10_perform_58 mt_X3_note in_X3_note se_X3_note lk_X10_79 (c_X3_note ew11) eta9 (by decide) rfl rfl (by decide) (Nat.le_of_ble_eq_true rfl) (by cases eoa9; rfl) ?_
      refine jw_aload_n dX10_perform_61 (o := (some x0)) rfl ?_
      refine jw_aload dX10_perform_62 (o := w5) rfl ?_
      obtain ⟨v12, ev12, hq⟩ := Option.bind_eq_some_iff.mp hq
      refine jw_getI (o := w5) dX10_perform_64 ev12 fl_X10_85 rfl ?_
      obtain ⟨h13, eh13, hq⟩ := Option.bind_eq_some_iff.mp hq
      refine jw_putI (o := (some x0)) dX10_perform_67 eh13 fl_X10_90 rfl rfl ?_
      refine jw_aload_n dX10_perform_70 (o := (some x0)) rfl ?_
      refine jw_dup dX10_perform_71 rfl ?_
      obtain ⟨v14, ev14, hq⟩ := Option.bind_eq_some_iff.mp hq
      refine jw_getI (o := (some x0)) dX10_perform_72 ev14 fl_X10_60 rfl ?_
      refine jw_iconst dX10_perform_75 (v := (1 : Int32)) (by decide) ?_
      refine jw_iadd dX10_perform_76 ?_
      obtain ⟨h15, eh15, hq⟩ := Option.bind_eq_some_iff.mp hq
      refine jw_putI (o := (some x0)) dX10_perform_77 eh15 fl_X10_60 rfl rfl ?_
      refine jw_aload_n dX10_perform_80 (o := (some x0)) rfl ?_
      refine jw_aload_n dX10_perform_81 (o := (some x0)) rfl ?_
      obtain ⟨v16, ev16, hq⟩ := Option.bind_eq_some_iff.mp hq
      refine jw_getI (o := (some x0)) dX10_perform_82 ev16 fl_X10_60 rfl ?_
      refine jw_bipush dX10_perform_85 (v := (60 : Int32)) (by decide) ?_
      rcases jw_if hq with ⟨c17, hq⟩ | ⟨c17, hq⟩
      · refine jw_icmp_le_t (tgt := 95) dX10_perform_87 (by decide) c17 ?_
        refine jw_aload_n dX10_perform_95 (o := (some x0)) rfl ?_
        refine jw_aload dX10_perform_96 (o := w5) rfl ?_
        obtain ⟨a18, ea18, hq⟩ := Option.bind_eq_some_iff.mp hq
        obtain ⟨eoa18, eta18⟩ := jw_rc_spec ea18
        obtain ⟨w20, h19, ew20, hq⟩ := jw_b2_spec hq
        refine jw_callV (As := [va_rf w5]) (S := [.ref x0]) (a := a18) (v := some (.int w20)) dX10_perform_98 mt_X10_findRange in_X10_findRange se_X10_findRange lk_X10_93 (c_X10_findRange ew20) eta18 (by decide) rfl rfl (by decide) (Nat.le_of_ble_eq_true rfl) (by cases eoa18; rfl) ?_
        exact l_X10_perform_b101 hk25 hq
      · refine jw_icmp_le_f (tgt := 95) dX10_perform_87 (by decide) c17 ?_
        refine jw_bipush dX10_perform_90 (v := (7 : Int32)) (by decide) ?_
        refine jw_goto (tgt := 101) dX10_perform_92 (by decide) ?_
        exact l_X10_perform_b101 hk25 hq

theorem l_X10_perform_b25 {hi : jw_H} : ∀ (n : Nat) (h : jw_H) (x0 : Nat) (x1 : Int32) (x2 : Int32) (x3 : Int32) (x4 : Int32) (r : Int32) (h' : jw_H), f_X10_perform_b25  n h x0 x1 x2 x3 x4 = some (r, h') → jw_E 12 uX10_perform hi 25 [some (.ref x0), some (.int x1), some (.int x2), some (.int x3), some (.int x4), none] [] h (.inl (some (.int r))) h' := by
  intro n
  induction n with
  | zero => intro h x0 x1 x2 x3 x4 r h' hq; exact nomatch hq
  | succ n ih => intro h x0 x1 x2 x3 x4 r h' hq; exact l_X10_perform_b25g ih hq

set_option maxRecDepth 100000 in
set_option maxHeartbeats 4000000 in
theorem l_X10_perform {hi : jw_H} {h : jw_H} {x0 : Nat} {x1 : Int32} {r : Int32} {h' : jw_H} (hq : f_X10_perform  h x0 x1 = some (r, h')) : jw_E 12 uX10_perform hi 0 [some (.ref x0), some (.int x1), none, none, none, none] [] h (.inl (some (.int r))) h' := by
  unfold f_X10_perform at hq
  refine jw_aload_n dX10_perform_0 (o := (some x0)) rfl ?_
  refine jw_iconst dX10_perform_1 (v := (0 : Int32)) (by decide) ?_
  obtain ⟨h1, eh1, hq⟩ := Option.bind_eq_some_iff.mp hq
  refine jw_putI (o := (some x0)) dX10_perform_2 eh1 fl_X10_60 rfl rfl ?_
  refine jw_aload_n dX10_perform_5 (o := (some x0)) rfl ?_
  refine jw_iconst dX10_perform_6 (v := (0 : Int32)) (by decide) ?_
  obtain ⟨h2, eh2, hq⟩ := Option.bind_eq_some_iff.mp hq
  refine jw_putI (o := (some x0)) dX10_perform_7 eh2 fl_X10_64 rfl rfl ?_
  refine jw_aload_n dX10_perform_10 (o := (some x0)) rfl ?_
  obtain ⟨v3, ev3, hq⟩ := Option.bind_eq_some_iff.mp hq
  refine jw_getR (o := (some x0)) dX10_perform_11 ev3 fl_X10_30 rfl ?_
  refine jw_iconst dX10_perform_14 (v := (0 : Int32)) (by decide) ?_
  obtain ⟨h4, eh4, hq⟩ := Option.bind_eq_some_iff.mp hq
  refine jw_putB (o := v3) dX10_perform_15 eh4 fl_X10_67 rfl rfl ?_
  refine jw_iconst dX10_perform_18 (v := (0 : Int32)) (by decide) ?_
  refine jw_istore_n (L' := [some (.ref x0), some (.int x1), some (.int (0 : Int32)), none, none, none]) dX10_perform_19 (Nat.le_of_ble_eq_true rfl) rfl ?_
  refine jw_iconst dX10_perform_20 (v := (0 : Int32)) (by decide) ?_
  refine jw_istore_n (L' := [some (.ref x0), some (.int x1), some (.int (0 : Int32)), some (.int (0 : Int32)), none, none]) dX10_perform_21 (Nat.le_of_ble_eq_true rfl) rfl ?_
  refine jw_iconst dX10_perform_22 (v := (0 : Int32)) (by decide) ?_
  refine jw_istore (L' := [some (.ref x0), some (.int x1), some (.int (0 : Int32)), some (.int (0 : Int32)), some (.int (0 : Int32)), none]) dX10_perform_23 (Nat.le_of_ble_eq_true rfl) rfl ?_
  exact l_X10_perform_b25  jw_FU _ _ _ _ _ _ _ _ hq

theorem c_X10_perform {h : jw_H} {x0 : Nat} {x1 : Int32} {r : Int32} {h' : jw_H} (hq : f_X10_perform h x0 x1 = some (r, h')) : jw_Con (Cond.code yX10_perform cX10_perform 6 (some .int)) yX10_perform 12 [.ref x0, .int x1] h (.inl (some (.int r))) h' :=
  jw_con false (plainFor_of_name (by decide +kernel)) (fun z => nomatch z) (by simp [jw_ent, jw_sl0_nil, jw_sl0_int, jw_sl0_long, jw_sl0_ref, jw_sl0_rf, jw_sl0_scr, List.replicate]) (by simp [jw_sl0_nil, jw_sl0_int, jw_sl0_long, jw_sl0_ref, jw_sl0_rf, jw_sl0_scr]) (l_X10_perform hq)


/-! X11_run -/
noncomputable def f_X11_run (h : jw_H) (x0 : Nat) : Option ((Int32 ⊕ String) × jw_H) :=
 (jw_gR h 11 (some x0) 5).bind fun v1 =>
 (jw_gR h 11 (some x0) 0).bind fun v2 =>
 (jw_gI h 11 (some x0) 12).bind fun v3 =>
 (jw_rc h 6 v1).bind fun a4 =>
 jw_b2 (f_X6_readOrders h a4 v2 v3) fun w6 h5 =>
 if w6 = (-1 : Int32) then ((jw_gI h5 11 (some x0) 13).bind fun v8 =>
 (jw_pI h5 11 (some x0) 13 (v8 + (1 : Int32))).bind fun h9 =>
 (jw_gR h9 11 (some x0) 9).bind fun v10 =>
 (jw_gI h9 11 (some x0) 13).bind fun v11 =>
 (jw_rc h9 10 v10).bind fun a12 =>
 jw_b2 (f_X10_perform h9 a12 v11) fun w14 h13 =>
 (jw_gR h13 11 (some x0) 9).bind fun v15 =>
 (jw_gI h13 10 v15 16).bind fun v16 =>
 (jw_pI h13 11 (some x0) 14 v16).bind fun h17 =>
 some (Sum.inl w14, h17))
 else (some (Sum.inr "java/lang/IllegalStateException", jw_thw h5))

set_option maxRecDepth 100000 in
set_option maxHeartbeats 4000000 in
theorem l_X11_run {hi : jw_H} {h : jw_H} {x0 : Nat} {r : Int32 ⊕ String} {h' : jw_H} (hq : f_X11_run  h x0 = some (r, h')) : jw_E 13 uX11_run hi 0 [some (.ref x0), none] [] h (jw_res r) h' := by
  unfold f_X11_run at hq
  refine jw_aload_n dX11_run_0 (o := (some x0)) rfl ?_
  obtain ⟨v1, ev1, hq⟩ := Option.bind_eq_some_iff.mp hq
  refine jw_getR (o := (some x0)) dX11_run_1 ev1 fl_X11_31 rfl ?_
  refine jw_aload_n dX11_run_4 (o := (some x0)) rfl ?_
  obtain ⟨v2, ev2, hq⟩ := Option.bind_eq_some_iff.mp hq
  refine jw_getR (o := (some x0)) dX11_run_5 ev2 fl_X11_9 rfl ?_
  refine jw_aload_n dX11_run_8 (o := (some x0)) rfl ?_
  obtain ⟨v3, ev3, hq⟩ := Option.bind_eq_some_iff.mp hq
  refine jw_getI (o := (some x0)) dX11_run_9 ev3 fl_X11_95 rfl ?_
  obtain ⟨a4, ea4, hq⟩ := Option.bind_eq_some_iff.mp hq
  obtain ⟨eoa4, eta4⟩ := jw_rc_spec ea4
  obtain ⟨w6, h5, ew6, hq⟩ := jw_b2_spec hq
  refine jw_callV (As := [va_rf v2, .int v3]) (S := []) (a := a4) (v := some (.int w6)) dX11_run_12 mt_X6_readOrders in_X6_readOrders se_X6_readOrders lk_X11_104 (c_X6_readOrders ew6) eta4 (by decide) rfl rfl (by decide) (Nat.le_of_ble_eq_true rfl) (by cases eoa4; rfl) ?_
  refine jw_iconst dX11_run_15 (v := (-1 : Int32)) (by decide) ?_
  rcases jw_if hq with ⟨c7, hq⟩ | ⟨c7, hq⟩
  · refine jw_icmp_eq_t (tgt := 29) dX11_run_16 (by decide) c7 ?_
    refine jw_aload_n dX11_run_29 (o := (some x0)) rfl ?_
    refine jw_dup dX11_run_30 rfl ?_
    obtain ⟨v8, ev8, hq⟩ := Option.bind_eq_some_iff.mp hq
    refine jw_getI (o := (some x0)) dX11_run_31 ev8 fl_X11_113 rfl ?_
    refine jw_iconst dX11_run_34 (v := (1 : Int32)) (by decide) ?_
    refine jw_iadd dX11_run_35 ?_
    obtain ⟨h9, eh9, hq⟩ := Option.bind_eq_some_iff.mp hq
    refine jw_putI (o := (some x0)) dX11_run_36 eh9 fl_X11_113 rfl rfl ?_
    refine jw_aload_n dX11_run_39 (o := (some x0)) rfl ?_
    obtain ⟨v10, ev10, hq⟩ := Option.bind_eq_some_iff.mp hq
    refine jw_getR (o := (some x0)) dX11_run_40 ev10 fl_X11_75 rfl ?_
    refine jw_aload_n dX11_run_43 (o := (some x0)) rfl ?_
    obtain ⟨v11, ev11, hq⟩ := Option.bind_eq_some_iff.mp hq
    refine jw_getI (o := (some x0)) dX11_run_44 ev11 fl_X11_113 rfl ?_
    obtain ⟨a12, ea12, hq⟩ := Option.bind_eq_some_iff.mp hq
    obtain ⟨eoa12, eta12⟩ := jw_rc_spec ea12
    obtain ⟨w14, h13, ew14, hq⟩ := jw_b2_spec hq
    refine jw_callV (As := [.int v11]) (S := []) (a := a12) (v := some (.int w14)) dX11_run_47 mt_X10_perform in_X10_perform se_X10_perform lk_X11_116 (c_X10_perform ew14) eta12 (by decide) rfl rfl (by decide) (Nat.le_of_ble_eq_true rfl) (by cases eoa12; rfl) ?_
    refine jw_istore_n (L' := [some (.ref x0), some (.int w14)]) dX11_run_50 (Nat.le_of_ble_eq_true rfl) rfl ?_
    refine jw_aload_n dX11_run_51 (o := (some x0)) rfl ?_
    refine jw_aload_n dX11_run_52 (o := (some x0)) rfl ?_
    obtain ⟨v15, ev15, hq⟩ := Option.bind_eq_some_iff.mp hq
    refine jw_getR (o := (some x0)) dX11_run_53 ev15 fl_X11_75 rfl ?_
    obtain ⟨v16, ev16, hq⟩ := Option.bind_eq_some_iff.mp hq
    refine jw_getI (o := v15) dX11_run_56 ev16 fl_X11_120 rfl ?_
    obtain ⟨h17, eh17, hq⟩ := Option.bind_eq_some_iff.mp hq
    refine jw_putI (o := (some x0)) dX11_run_59 eh17 fl_X11_123 rfl rfl ?_
    refine jw_iload_n dX11_run_62 rfl ?_
    cases hq
    exact jw_iret (ty := .int) dX11_run_63 rfl rfl
  · refine jw_icmp_eq_f (tgt := 29) dX11_run_16 (by decide) c7 ?_
    cases hq
    exact jw_throw th_X11_run_19 (Nat.le_of_ble_eq_true rfl) (Nat.le_of_ble_eq_true rfl)

theorem c_X11_run {h : jw_H} {x0 : Nat} {r : Int32 ⊕ String} {h' : jw_H} (hq : f_X11_run h x0 = some (r, h')) : jw_Con (Cond.code yX11_run cX11_run 2 (some .int)) yX11_run 13 [.ref x0] h (jw_res r) h' :=
  jw_con false (plainFor_of_name (by decide +kernel)) (fun z => nomatch z) (by simp [jw_ent, jw_sl0_nil, jw_sl0_int, jw_sl0_long, jw_sl0_ref, jw_sl0_rf, jw_sl0_scr, List.replicate]) (by simp [jw_sl0_nil, jw_sl0_int, jw_sl0_long, jw_sl0_ref, jw_sl0_rf, jw_sl0_scr]) (l_X11_run hq)


/-! X9_isWell -/
noncomputable def g_X9_isWell_b158 (k133 : jw_H → Nat → Int32 → Option (Int32 × jw_H)) (h : jw_H) (x0 : Nat) (x1 : Int32) : Option (Int32 × jw_H) :=
 k133 h x0 (x1 + (1 : Int32))

noncomputable def g_X9_isWell_b133 (k133 : jw_H → Nat → Int32 → Option (Int32 × jw_H)) (h : jw_H) (x0 : Nat) (x1 : Int32) : Option (Int32 × jw_H) :=
 if (5 : Int32) ≤ x1 then (some ((1 : Int32), h))
 else ((jw_rc h 9 (some x0)).bind fun a2 =>
 jw_b2 (f_X9_markedId h a2 x1) fun w4 h3 =>
 if w4 = (-1 : Int32) then (g_X9_isWell_b158 k133 h3 x0 x1)
 else ((jw_rc h3 9 (some x0)).bind fun a6 =>
 jw_b2 (f_X9_markedLine h3 a6 x1) fun w8 h7 =>
 if w8 = (-1 : Int32) then (some ((0 : Int32), h7))
 else (g_X9_isWell_b158 k133 h7 x0 x1)))

noncomputable def f_X9_isWell_b133 (n : Nat) : jw_H → Nat → Int32 → Option (Int32 × jw_H) :=
 Nat.rec (fun _ _ _ => none) (fun _ k133 => g_X9_isWell_b133 k133) n

noncomputable def g_X9_isWell_b66 (k66 : jw_H → Nat → Int32 → Option (Int32 × jw_H)) (h : jw_H) (x0 : Nat) (x1 : Int32) : Option (Int32 × jw_H) :=
 (jw_gR h 9 (some x0) 0).bind fun v1 =>
 (jw_gI h 7 v1 2).bind fun v2 =>
 if v2 < x1 then (f_X9_isWell_b133  jw_FU h x0 (0 : Int32))
 else ((jw_gR h 9 (some x0) 0).bind fun v4 =>
 (jw_rc h 7 v4).bind fun a5 =>
 jw_b2 (f_X7_lengthOf h a5 x1) fun w7 h6 =>
 (jw_rc h6 9 (some x0)).bind fun a8 =>
 jw_b2 (f_X9_idOf h6 a8 x1) fun w10 h9 =>
 if w7 < 0 then (some ((0 : Int32), h9))
 else (if (30 : Int32) < w7 then (some ((0 : Int32), h9))
 else (if w10 < 0 then (some ((0 : Int32), h9))
 else ((jw_gI h9 9 (some x0) 4).bind fun v14 =>
 if v14 ≤ w10 then (some ((0 : Int32), h9))
 else ((jw_rc h9 9 (some x0)).bind fun a16 =>
 jw_b2 (f_X9_numberOf h9 a16 w10) fun w18 h17 =>
 if w18 = x1 then (k66 h17 x0 (x1 + (1 : Int32)))
 else (some ((0 : Int32), h17)))))))

noncomputable def f_X9_isWell_b66 (n : Nat) : jw_H → Nat → Int32 → Option (Int32 × jw_H) :=
 Nat.rec (fun _ _ _ => none) (fun _ k66 => g_X9_isWell_b66 k66) n

noncomputable def g_X9_isWell_b64 (h : jw_H) (x0 : Nat) : Option (Int32 × jw_H) :=
 f_X9_isWell_b66  jw_FU h x0 (1 : Int32)

noncomputable def f_X9_isWell (h : jw_H) (x0 : Nat) : Option (Int32 × jw_H) :=
 (jw_gR h 9 (some x0) 0).bind fun v1 =>
 (jw_gI h 7 v1 2).bind fun v2 =>
 if v2 < 0 then (some ((0 : Int32), h))
 else ((jw_gR h 9 (some x0) 0).bind fun v4 =>
 (jw_gI h 7 v4 2).bind fun v5 =>
 if (40 : Int32) < v5 then (some ((0 : Int32), h))
 else ((jw_gI h 9 (some x0) 3).bind fun v7 =>
 if v7 < 0 then (some ((0 : Int32), h))
 else ((jw_gI h 9 (some x0) 3).bind fun v9 =>
 (jw_gR h 9 (some x0) 0).bind fun v10 =>
 (jw_gI h 7 v10 2).bind fun v11 =>
 if v9 ≤ v11 then ((jw_gI h 9 (some x0) 3).bind fun v13 =>
 if v13 = 0 then ((jw_gR h 9 (some x0) 0).bind fun v15 =>
 (jw_gI h 7 v15 2).bind fun v16 =>
 if v16 ≤ 0 then (g_X9_isWell_b64  h x0)
 else (some ((0 : Int32), h)))
 else (g_X9_isWell_b64  h x0))
 else (some ((0 : Int32), h)))))

set_option maxRecDepth 100000 in
set_option maxHeartbeats 4000000 in
theorem l_X9_isWell_b158 {hi : jw_H} {k133 : jw_H → Nat → Int32 → Option (Int32 × jw_H)} (hk133 : ∀ (h : jw_H) (x0 : Nat) (x1 : Int32) (r : Int32) (h' : jw_H), k133 h x0 x1 = some (r, h') → jw_E 2 uX9_isWell hi 133 [some (.ref x0), some (.int x1), none, none] [] h (.inl (some (.int r))) h') {h : jw_H} {x0 : Nat} {x1 : Int32} {r : Int32} {h' : jw_H} (hq : g_X9_isWell_b158 k133 h x0 x1 = some (r, h')) : jw_E 2 uX9_isWell hi 158 [some (.ref x0), some (.int x1), none, none] [] h (.inl (some (.int r))) h' := by
  unfold g_X9_isWell_b158 at hq
  refine jw_iinc (L' := [some (.ref x0), some (.int (x1 + (1 : Int32))), none, none]) dX9_isWell_158 rfl (v := (1 : Int32)) (by decide) (Nat.le_of_ble_eq_true rfl) rfl ?_
  refine jw_goto (tgt := 133) dX9_isWell_161 (by decide) ?_
  exact hk133 _ _ _ _ _ hq

set_option maxRecDepth 100000 in
set_option maxHeartbeats 4000000 in
theorem l_X9_isWell_b133g {hi : jw_H} {k133 : jw_H → Nat → Int32 → Option (Int32 × jw_H)} (hk133 : ∀ (h : jw_H) (x0 : Nat) (x1 : Int32) (r : Int32) (h' : jw_H), k133 h x0 x1 = some (r, h') → jw_E 2 uX9_isWell hi 133 [some (.ref x0), some (.int x1), none, none] [] h (.inl (some (.int r))) h') {h : jw_H} {x0 : Nat} {x1 : Int32} {r : Int32} {h' : jw_H} (hq : g_X9_isWell_b133 k133 h x0 x1 = some (r, h')) : jw_E 2 uX9_isWell hi 133 [some (.ref x0), some (.int x1), none, none] [] h (.inl (some (.int r))) h' := by
  unfold g_X9_isWell_b133 at hq
  refine jw_iload_n dX9_isWell_133 rfl ?_
  refine jw_iconst dX9_isWell_134 (v := (5 : Int32)) (by decide) ?_
  rcases jw_if hq with ⟨c1, hq⟩ | ⟨c1, hq⟩
  · refine jw_icmp_ge_t (tgt := 164) dX9_isWell_135 (by decide) c1 ?_
    refine jw_iconst dX9_isWell_164 (v := (1 : Int32)) (by decide) ?_
    cases hq
    exact jw_iret (ty := .boolean) dX9_isWell_165 rfl rfl
  · refine jw_icmp_ge_f (tgt := 164) dX9_isWell_135 (by decide) c1 ?_
    refine jw_aload_n dX9_isWell_138 (o := (some x0)) rfl ?_
    refine jw_iload_n dX9_isWell_139 rfl ?_
    obtain ⟨a2, ea2, hq⟩ := Option.bind_eq_some_iff.mp hq
    obtain ⟨eoa2, eta2⟩ := jw_rc_spec ea2
    obtain ⟨w4, h3, ew4, hq⟩ := jw_b2_spec hq
    refine jw_callV (As := [.int x1]) (S := []) (a := a2) (v := some (.int w4)) dX9_isWell_140 mt_X9_markedId in_X9_markedId se_X9_markedId lk_X9_44 (c_X9_markedId ew4) eta2 (by decide) rfl rfl (by decide) (Nat.le_of_ble_eq_true rfl) (by cases eoa2; rfl) ?_
    refine jw_iconst dX9_isWell_143 (v := (-1 : Int32)) (by decide) ?_
    rcases jw_if hq with ⟨c5, hq⟩ | ⟨c5, hq⟩
    · refine jw_icmp_eq_t (tgt := 158) dX9_isWell_144 (by decide) c5 ?_
      exact l_X9_isWell_b158 hk133 hq
    · refine jw_icmp_eq_f (tgt := 158) dX9_isWell_144 (by decide) c5 ?_
      refine jw_aload_n dX9_isWell_147 (o := (some x0)) rfl ?_
      refine jw_iload_n dX9_isWell_148 rfl ?_
      obtain ⟨a6, ea6, hq⟩ := Option.bind_eq_some_iff.mp hq
      obtain ⟨eoa6, eta6⟩ := jw_rc_spec ea6
      obtain ⟨w8, h7, ew8, hq⟩ := jw_b2_spec hq
      refine jw_callV (As := [.int x1]) (S := []) (a := a6) (v := some (.int w8)) dX9_isWell_149 mt_X9_markedLine in_X9_markedLine se_X9_markedLine lk_X9_91 (c_X9_markedLine ew8) eta6 (by decide) rfl rfl (by decide) (Nat.le_of_ble_eq_true rfl) (by cases eoa6; rfl) ?_
      refine jw_iconst dX9_isWell_152 (v := (-1 : Int32)) (by decide) ?_
      rcases jw_if hq with ⟨c9, hq⟩ | ⟨c9, hq⟩
      · refine jw_icmp_ne_f (tgt := 158) dX9_isWell_153 (by decide) c9 ?_
        refine jw_iconst dX9_isWell_156 (v := (0 : Int32)) (by decide) ?_
        cases hq
        exact jw_iret (ty := .boolean) dX9_isWell_157 rfl rfl
      · refine jw_icmp_ne_t (tgt := 158) dX9_isWell_153 (by decide) c9 ?_
        exact l_X9_isWell_b158 hk133 hq

theorem l_X9_isWell_b133 {hi : jw_H} : ∀ (n : Nat) (h : jw_H) (x0 : Nat) (x1 : Int32) (r : Int32) (h' : jw_H), f_X9_isWell_b133  n h x0 x1 = some (r, h') → jw_E 2 uX9_isWell hi 133 [some (.ref x0), some (.int x1), none, none] [] h (.inl (some (.int r))) h' := by
  intro n
  induction n with
  | zero => intro h x0 x1 r h' hq; exact nomatch hq
  | succ n ih => intro h x0 x1 r h' hq; exact l_X9_isWell_b133g ih hq

set_option maxRecDepth 100000 in
set_option maxHeartbeats 4000000 in
theorem l_X9_isWell_b66g {hi : jw_H} {k66 : jw_H → Nat → Int32 → Option (Int32 × jw_H)} (hk66 : ∀ (h : jw_H) (x0 : Nat) (x1 : Int32) (r : Int32) (h' : jw_H), k66 h x0 x1 = some (r, h') → jw_E 2 uX9_isWell hi 66 [some (.ref x0), some (.int x1), none, none] [] h (.inl (some (.int r))) h') {h : jw_H} {x0 : Nat} {x1 : Int32} {r : Int32} {h' : jw_H} (hq : g_X9_isWell_b66 k66 h x0 x1 = some (r, h')) : jw_E 2 uX9_isWell hi 66 [some (.ref x0), some (.int x1), none, none] [] h (.inl (some (.int r))) h' := by
  unfold g_X9_isWell_b66 at hq
  refine jw_iload_n dX9_isWell_66 rfl ?_
  refine jw_aload_n dX9_isWell_67 (o := (some x0)) rfl ?_
  obtain ⟨v1, ev1, hq⟩ := Option.bind_eq_some_iff.mp hq
  refine jw_getR (o := (some x0)) dX9_isWell_68 ev1 fl_X9_14 rfl ?_
  obtain ⟨v2, ev2, hq⟩ := Option.bind_eq_some_iff.mp hq
  refine jw_getI (o := v1) dX9_isWell_71 ev2 fl_X9_41 rfl ?_
  rcases jw_if hq with ⟨c3, hq⟩ | ⟨c3, hq⟩
  · refine jw_icmp_gt_t (tgt := 131) dX9_isWell_74 (by decide) c3 ?_
    refine jw_iconst dX9_isWell_131 (v := (0 : Int32)) (by decide) ?_
    refine jw_istore_n (L' := [some (.ref x0), some (.int (0 : Int32)), none, none]) dX9_isWell_132 (Nat.le_of_ble_eq_true rfl) rfl ?_
    exact l_X9_isWell_b133  jw_FU _ _ _ _ _ hq
  · refine jw_icmp_gt_f (tgt := 131) dX9_isWell_74 (by decide) c3 ?_
    refine jw_aload_n dX9_isWell_77 (o := (some x0)) rfl ?_
    obtain ⟨v4, ev4, hq⟩ := Option.bind_eq_some_iff.mp hq
    refine jw_getR (o := (some x0)) dX9_isWell_78 ev4 fl_X9_14 rfl ?_
    refine jw_iload_n dX9_isWell_81 rfl ?_
    obtain ⟨a5, ea5, hq⟩ := Option.bind_eq_some_iff.mp hq
    obtain ⟨eoa5, eta5⟩ := jw_rc_spec ea5
    obtain ⟨w7, h6, ew7, hq⟩ := jw_b2_spec hq
    refine jw_callV (As := [.int x1]) (S := []) (a := a5) (v := some (.int w7)) dX9_isWell_82 mt_X7_lengthOf in_X7_lengthOf se_X7_lengthOf lk_X9_88 (c_X7_lengthOf ew7) eta5 (by decide) rfl rfl (by decide) (Nat.le_of_ble_eq_true rfl) (by cases eoa5; rfl) ?_
    refine jw_istore_n (L' := [some (.ref x0), some (.int x1), some (.int w7), none]) dX9_isWell_85 (Nat.le_of_ble_eq_true rfl) rfl ?_
    refine jw_aload_n dX9_isWell_86 (o := (some x0)) rfl ?_
    refine jw_iload_n dX9_isWell_87 rfl ?_
    obtain ⟨a8, ea8, hq⟩ := Option.bind_eq_some_iff.mp hq
    obtain ⟨eoa8, eta8⟩ := jw_rc_spec ea8
    obtain ⟨w10, h9, ew10, hq⟩ := jw_b2_spec hq
    refine jw_callV (As := [.int x1]) (S := []) (a := a8) (v := some (.int w10)) dX9_isWell_88 mt_X9_idOf in_X9_idOf se_X9_idOf lk_X9_76 (c_X9_idOf ew10) eta8 (by decide) rfl rfl (by decide) (Nat.le_of_ble_eq_true rfl) (by cases eoa8; rfl) ?_
    refine jw_istore_n (L' := [some (.ref x0), some (.int x1), some (.int w7), some (.int w10)]) dX9_isWell_91 (Nat.le_of_ble_eq_true rfl) rfl ?_
    refine jw_iload_n dX9_isWell_92 rfl ?_
    rcases jw_if hq with ⟨c11, hq⟩ | ⟨c11, hq⟩
    · refine jw_if_lt_t (tgt := 123) dX9_isWell_93 (by decide) c11 ?_
      refine jw_iconst dX9_isWell_123 (v := (0 : Int32)) (by decide) ?_
      cases hq
      exact jw_iret (ty := .boolean) dX9_isWell_124 rfl rfl
    · refine jw_if_lt_f (tgt := 123) dX9_isWell_93 (by decide) c11 ?_
      refine jw_iload_n dX9_isWell_96 rfl ?_
      refine jw_bipush dX9_isWell_97 (v := (30 : Int32)) (by decide) ?_
      rcases jw_if hq with ⟨c12, hq⟩ | ⟨c12, hq⟩
      · refine jw_icmp_gt_t (tgt := 123) dX9_isWell_99 (by decide) c12 ?_
        refine jw_iconst dX9_isWell_123 (v := (0 : Int32)) (by decide) ?_
        cases hq
        exact jw_iret (ty := .boolean) dX9_isWell_124 rfl rfl
      · refine jw_icmp_gt_f (tgt := 123) dX9_isWell_99 (by decide) c12 ?_
        refine jw_iload_n dX9_isWell_102 rfl ?_
        rcases jw_if hq with ⟨c13, hq⟩ | ⟨c13, hq⟩
        · refine jw_if_lt_t (tgt := 123) dX9_isWell_103 (by decide) c13 ?_
          refine jw_iconst dX9_isWell_123 (v := (0 : Int32)) (by decide) ?_
          cases hq
          exact jw_iret (ty := .boolean) dX9_isWell_124 rfl rfl
        · refine jw_if_lt_f (tgt := 123) dX9_isWell_103 (by decide) c13 ?_
          refine jw_iload_n dX9_isWell_106 rfl ?_
          refine jw_aload_n dX9_isWell_107 (o := (some x0)) rfl ?_
          obtain ⟨v14, ev14, hq⟩ := Option.bind_eq_some_iff.mp hq
          refine jw_getI (o := (some x0)) dX9_isWell_108 ev14 fl_X9_55 rfl ?_
          rcases jw_if hq with ⟨c15, hq⟩ | ⟨c15, hq⟩
          · refine jw_icmp_ge_t (tgt := 123) dX9_isWell_111 (by decide) c15 ?_
            refine jw_iconst dX9_isWell_123 (v := (0 : Int32)) (by decide) ?_
            cases hq
            exact jw_iret (ty := .boolean) dX9_isWell_124 rfl rfl
          · refine jw_icmp_ge_f (tgt := 123) dX9_isWell_111 (by decide) c15 ?_
            refine jw_aload_n dX9_isWell_114 (o := (some x0)) rfl ?_
            refine jw_iload_n dX9_isWell_115 rfl ?_
            obtain ⟨a16, ea16, hq⟩ := Option.bind_eq_some_iff.mp hq
            obtain ⟨eoa16, eta16⟩ := jw_rc_spec ea16
            obtain ⟨w18, h17, ew18, hq⟩ := jw_b2_spec hq
            refine jw_callV (As := [.int w10]) (S := []) (a := a16) (v := some (.int w18)) dX9_isWell_116 mt_X9_numberOf in_X9_numberOf se_X9_numberOf lk_X9_48 (c_X9_numberOf ew18) eta16 (by decide) rfl rfl (by decide) (Nat.le_of_ble_eq_true rfl) (by cases eoa16; rfl) ?_
            refine jw_iload_n dX9_isWell_119 rfl ?_
            rcases jw_if hq with ⟨c19, hq⟩ | ⟨c19, hq⟩
            · refine jw_icmp_eq_t (tgt := 125) dX9_isWell_120 (by decide) c19 ?_
              refine jw_iinc (L' := [some (.ref x0), some (.int (x1 + (1 : Int32))), some (.int w7), some (.int w10)]) dX9_isWell_125 rfl (v := (1 : Int32)) (by decide) (Nat.le_of_ble_eq_true rfl) rfl ?_
              refine jw_goto (tgt := 66) dX9_isWell_128 (by decide) ?_
              refine jw_forget [true, true, false, false] (L' := [some (.ref x0), some (.int (x1 + (1 : Int32))), none, none]) rfl ?_
              exact hk66 _ _ _ _ _ hq
            · refine jw_icmp_eq_f (tgt := 125) dX9_isWell_120 (by decide) c19 ?_
              refine jw_iconst dX9_isWell_123 (v := (0 : Int32)) (by decide) ?_
              cases hq
              exact jw_iret (ty := .boolean) dX9_isWell_124 rfl rfl

theorem l_X9_isWell_b66 {hi : jw_H} : ∀ (n : Nat) (h : jw_H) (x0 : Nat) (x1 : Int32) (r : Int32) (h' : jw_H), f_X9_isWell_b66  n h x0 x1 = some (r, h') → jw_E 2 uX9_isWell hi 66 [some (.ref x0), some (.int x1), none, none] [] h (.inl (some (.int r))) h' := by
  intro n
  induction n with
  | zero => intro h x0 x1 r h' hq; exact nomatch hq
  | succ n ih => intro h x0 x1 r h' hq; exact l_X9_isWell_b66g ih hq

set_option maxRecDepth 100000 in
set_option maxHeartbeats 4000000 in
theorem l_X9_isWell_b64 {hi : jw_H} {h : jw_H} {x0 : Nat} {r : Int32} {h' : jw_H} (hq : g_X9_isWell_b64  h x0 = some (r, h')) : jw_E 2 uX9_isWell hi 64 [some (.ref x0), none, none, none] [] h (.inl (some (.int r))) h' := by
  unfold g_X9_isWell_b64 at hq
  refine jw_iconst dX9_isWell_64 (v := (1 : Int32)) (by decide) ?_
  refine jw_istore_n (L' := [some (.ref x0), some (.int (1 : Int32)), none, none]) dX9_isWell_65 (Nat.le_of_ble_eq_true rfl) rfl ?_
  exact l_X9_isWell_b66  jw_FU _ _ _ _ _ hq

set_option maxRecDepth 100000 in
set_option maxHeartbeats 4000000 in
theorem l_X9_isWell {hi : jw_H} {h : jw_H} {x0 : Nat} {r : Int32} {h' : jw_H} (hq : f_X9_isWell  h x0 = some (r, h')) : jw_E 2 uX9_isWell hi 0 [some (.ref x0), none, none, none] [] h (.inl (some (.int r))) h' := by
  unfold f_X9_isWell at hq
  refine jw_aload_n dX9_isWell_0 (o := (some x0)) rfl ?_
  obtain ⟨v1, ev1, hq⟩ := Option.bind_eq_some_iff.mp hq
  refine jw_getR (o := (some x0)) dX9_isWell_1 ev1 fl_X9_14 rfl ?_
  obtain ⟨v2, ev2, hq⟩ := Option.bind_eq_some_iff.mp hq
  refine jw_getI (o := v1) dX9_isWell_4 ev2 fl_X9_41 rfl ?_
  rcases jw_if hq with ⟨c3, hq⟩ | ⟨c3, hq⟩
  · refine jw_if_lt_t (tgt := 43) dX9_isWell_7 (by decide) c3 ?_
    refine jw_iconst dX9_isWell_43 (v := (0 : Int32)) (by decide) ?_
    cases hq
    exact jw_iret (ty := .boolean) dX9_isWell_44 rfl rfl
  · refine jw_if_lt_f (tgt := 43) dX9_isWell_7 (by decide) c3 ?_
    refine jw_aload_n dX9_isWell_10 (o := (some x0)) rfl ?_
    obtain ⟨v4, ev4, hq⟩ := Option.bind_eq_some_iff.mp hq
    refine jw_getR (o := (some x0)) dX9_isWell_11 ev4 fl_X9_14 rfl ?_
    obtain ⟨v5, ev5, hq⟩ := Option.bind_eq_some_iff.mp hq
    refine jw_getI (o := v4) dX9_isWell_14 ev5 fl_X9_41 rfl ?_
    refine jw_bipush dX9_isWell_17 (v := (40 : Int32)) (by decide) ?_
    rcases jw_if hq with ⟨c6, hq⟩ | ⟨c6, hq⟩
    · refine jw_icmp_gt_t (tgt := 43) dX9_isWell_19 (by decide) c6 ?_
      refine jw_iconst dX9_isWell_43 (v := (0 : Int32)) (by decide) ?_
      cases hq
      exact jw_iret (ty := .boolean) dX9_isWell_44 rfl rfl
    · refine jw_icmp_gt_f (tgt := 43) dX9_isWell_19 (by decide) c6 ?_
      refine jw_aload_n dX9_isWell_22 (o := (some x0)) rfl ?_
      obtain ⟨v7, ev7, hq⟩ := Option.bind_eq_some_iff.mp hq
      refine jw_getI (o := (some x0)) dX9_isWell_23 ev7 fl_X9_37 rfl ?_
      rcases jw_if hq with ⟨c8, hq⟩ | ⟨c8, hq⟩
      · refine jw_if_lt_t (tgt := 43) dX9_isWell_26 (by decide) c8 ?_
        refine jw_iconst dX9_isWell_43 (v := (0 : Int32)) (by decide) ?_
        cases hq
        exact jw_iret (ty := .boolean) dX9_isWell_44 rfl rfl
      · refine jw_if_lt_f (tgt := 43) dX9_isWell_26 (by decide) c8 ?_
        refine jw_aload_n dX9_isWell_29 (o := (some x0)) rfl ?_
        obtain ⟨v9, ev9, hq⟩ := Option.bind_eq_some_iff.mp hq
        refine jw_getI (o := (some x0)) dX9_isWell_30 ev9 fl_X9_37 rfl ?_
        refine jw_aload_n dX9_isWell_33 (o := (some x0)) rfl ?_
        obtain ⟨v10, ev10, hq⟩ := Option.bind_eq_some_iff.mp hq
        refine jw_getR (o := (some x0)) dX9_isWell_34 ev10 fl_X9_14 rfl ?_
        obtain ⟨v11, ev11, hq⟩ := Option.bind_eq_some_iff.mp hq
        refine jw_getI (o := v10) dX9_isWell_37 ev11 fl_X9_41 rfl ?_
        rcases jw_if hq with ⟨c12, hq⟩ | ⟨c12, hq⟩
        · refine jw_icmp_le_t (tgt := 45) dX9_isWell_40 (by decide) c12 ?_
          refine jw_aload_n dX9_isWell_45 (o := (some x0)) rfl ?_
          obtain ⟨v13, ev13, hq⟩ := Option.bind_eq_some_iff.mp hq
          refine jw_getI (o := (some x0)) dX9_isWell_46 ev13 fl_X9_37 rfl ?_
          rcases jw_if hq with ⟨c14, hq⟩ | ⟨c14, hq⟩
          · refine jw_if_ne_f (tgt := 64) dX9_isWell_49 (by decide) c14 ?_
            refine jw_aload_n dX9_isWell_52 (o := (some x0)) rfl ?_
            obtain ⟨v15, ev15, hq⟩ := Option.bind_eq_some_iff.mp hq
            refine jw_getR (o := (some x0)) dX9_isWell_53 ev15 fl_X9_14 rfl ?_
            obtain ⟨v16, ev16, hq⟩ := Option.bind_eq_some_iff.mp hq
            refine jw_getI (o := v15) dX9_isWell_56 ev16 fl_X9_41 rfl ?_
            rcases jw_if hq with ⟨c17, hq⟩ | ⟨c17, hq⟩
            · refine jw_if_le_t (tgt := 64) dX9_isWell_59 (by decide) c17 ?_
              exact l_X9_isWell_b64  hq
            · refine jw_if_le_f (tgt := 64) dX9_isWell_59 (by decide) c17 ?_
              refine jw_iconst dX9_isWell_62 (v := (0 : Int32)) (by decide) ?_
              cases hq
              exact jw_iret (ty := .boolean) dX9_isWell_63 rfl rfl
          · refine jw_if_ne_t (tgt := 64) dX9_isWell_49 (by decide) c14 ?_
            exact l_X9_isWell_b64  hq
        · refine jw_icmp_le_f (tgt := 45) dX9_isWell_40 (by decide) c12 ?_
          refine jw_iconst dX9_isWell_43 (v := (0 : Int32)) (by decide) ?_
          cases hq
          exact jw_iret (ty := .boolean) dX9_isWell_44 rfl rfl

theorem c_X9_isWell {h : jw_H} {x0 : Nat} {r : Int32} {h' : jw_H} (hq : f_X9_isWell h x0 = some (r, h')) : jw_Con (Cond.code yX9_isWell cX9_isWell 4 (some .boolean)) yX9_isWell 2 [.ref x0] h (.inl (some (.int r))) h' :=
  jw_con false (plainFor_of_name (by decide +kernel)) (fun z => nomatch z) (by simp [jw_ent, jw_sl0_nil, jw_sl0_int, jw_sl0_long, jw_sl0_ref, jw_sl0_rf, jw_sl0_scr, List.replicate]) (by simp [jw_sl0_nil, jw_sl0_int, jw_sl0_long, jw_sl0_ref, jw_sl0_rf, jw_sl0_scr]) (l_X9_isWell hq)


/-! X8_isWell -/
noncomputable def g_X8_isWell_b28 (k28 : jw_H → Nat → Int32 → Option (Int32 × jw_H)) (h : jw_H) (x0 : Nat) (x1 : Int32) : Option (Int32 × jw_H) :=
 if (4 : Int32) ≤ x1 then (some ((1 : Int32), h))
 else ((jw_rc h 8 (some x0)).bind fun a2 =>
 jw_b2 (f_X8_file h a2 x1) fun w4 h3 =>
 if w4 = none then (some ((0 : Int32), h3))
 else ((jw_gI h3 7 w4 2).bind fun v6 =>
 if v6 ≤ (40 : Int32) then (k28 h3 x0 (x1 + (1 : Int32)))
 else (some ((0 : Int32), h3))))

noncomputable def f_X8_isWell_b28 (n : Nat) : jw_H → Nat → Int32 → Option (Int32 × jw_H) :=
 Nat.rec (fun _ _ _ => none) (fun _ k28 => g_X8_isWell_b28 k28) n

noncomputable def f_X8_isWell (h : jw_H) (x0 : Nat) : Option (Int32 × jw_H) :=
 (jw_gR h 8 (some x0) 0).bind fun v1 =>
 (jw_gI h 7 v1 2).bind fun v2 =>
 if (40 : Int32) < v2 then (some ((0 : Int32), h))
 else ((jw_gR h 8 (some x0) 1).bind fun v4 =>
 (jw_gI h 7 v4 2).bind fun v5 =>
 if v5 ≤ (100 : Int32) then (f_X8_isWell_b28  jw_FU h x0 (0 : Int32))
 else (some ((0 : Int32), h)))

set_option maxRecDepth 100000 in
set_option maxHeartbeats 4000000 in
theorem l_X8_isWell_b28g {hi : jw_H} {k28 : jw_H → Nat → Int32 → Option (Int32 × jw_H)} (hk28 : ∀ (h : jw_H) (x0 : Nat) (x1 : Int32) (r : Int32) (h' : jw_H), k28 h x0 x1 = some (r, h') → jw_E 1 uX8_isWell hi 28 [some (.ref x0), some (.int x1), none] [] h (.inl (some (.int r))) h') {h : jw_H} {x0 : Nat} {x1 : Int32} {r : Int32} {h' : jw_H} (hq : g_X8_isWell_b28 k28 h x0 x1 = some (r, h')) : jw_E 1 uX8_isWell hi 28 [some (.ref x0), some (.int x1), none] [] h (.inl (some (.int r))) h' := by
  unfold g_X8_isWell_b28 at hq
  refine jw_iload_n dX8_isWell_28 rfl ?_
  refine jw_iconst dX8_isWell_29 (v := (4 : Int32)) (by decide) ?_
  rcases jw_if hq with ⟨c1, hq⟩ | ⟨c1, hq⟩
  · refine jw_icmp_ge_t (tgt := 60) dX8_isWell_30 (by decide) c1 ?_
    refine jw_iconst dX8_isWell_60 (v := (1 : Int32)) (by decide) ?_
    cases hq
    exact jw_iret (ty := .boolean) dX8_isWell_61 rfl rfl
  · refine jw_icmp_ge_f (tgt := 60) dX8_isWell_30 (by decide) c1 ?_
    refine jw_aload_n dX8_isWell_33 (o := (some x0)) rfl ?_
    refine jw_iload_n dX8_isWell_34 rfl ?_
    obtain ⟨a2, ea2, hq⟩ := Option.bind_eq_some_iff.mp hq
    obtain ⟨eoa2, eta2⟩ := jw_rc_spec ea2
    obtain ⟨w4, h3, ew4, hq⟩ := jw_b2_spec hq
    refine jw_callV (As := [.int x1]) (S := []) (a := a2) (v := some (va_rf w4)) dX8_isWell_35 mt_X8_file in_X8_file se_X8_file lk_X8_35 (c_X8_file ew4) eta2 (by decide) rfl rfl (by decide) (Nat.le_of_ble_eq_true rfl) (by cases eoa2; rfl) ?_
    refine jw_astore_n (o := w4) (L' := [some (.ref x0), some (.int x1), some (va_rf w4)]) dX8_isWell_38 (Nat.le_of_ble_eq_true rfl) rfl ?_
    refine jw_aload_n dX8_isWell_39 (o := w4) rfl ?_
    rcases jw_if hq with ⟨c5, hq⟩ | ⟨c5, hq⟩
    · refine jw_ifnull_t (o := w4) (tgt := 52) dX8_isWell_40 (by decide) c5 ?_
      refine jw_iconst dX8_isWell_52 (v := (0 : Int32)) (by decide) ?_
      cases hq
      exact jw_iret (ty := .boolean) dX8_isWell_53 rfl rfl
    · refine jw_ifnull_f (o := w4) dX8_isWell_40 c5 ?_
      refine jw_aload_n dX8_isWell_43 (o := w4) rfl ?_
      obtain ⟨v6, ev6, hq⟩ := Option.bind_eq_some_iff.mp hq
      refine jw_getI (o := w4) dX8_isWell_44 ev6 fl_X8_39 rfl ?_
      refine jw_bipush dX8_isWell_47 (v := (40 : Int32)) (by decide) ?_
      rcases jw_if hq with ⟨c7, hq⟩ | ⟨c7, hq⟩
      · refine jw_icmp_le_t (tgt := 54) dX8_isWell_49 (by decide) c7 ?_
        refine jw_iinc (L' := [some (.ref x0), some (.int (x1 + (1 : Int32))), some (va_rf w4)]) dX8_isWell_54 rfl (v := (1 : Int32)) (by decide) (Nat.le_of_ble_eq_true rfl) rfl ?_
        refine jw_goto (tgt := 28) dX8_isWell_57 (by decide) ?_
        refine jw_forget [true, true, false] (L' := [some (.ref x0), some (.int (x1 + (1 : Int32))), none]) rfl ?_
        exact hk28 _ _ _ _ _ hq
      · refine jw_icmp_le_f (tgt := 54) dX8_isWell_49 (by decide) c7 ?_
        refine jw_iconst dX8_isWell_52 (v := (0 : Int32)) (by decide) ?_
        cases hq
        exact jw_iret (ty := .boolean) dX8_isWell_53 rfl rfl

theorem l_X8_isWell_b28 {hi : jw_H} : ∀ (n : Nat) (h : jw_H) (x0 : Nat) (x1 : Int32) (r : Int32) (h' : jw_H), f_X8_isWell_b28  n h x0 x1 = some (r, h') → jw_E 1 uX8_isWell hi 28 [some (.ref x0), some (.int x1), none] [] h (.inl (some (.int r))) h' := by
  intro n
  induction n with
  | zero => intro h x0 x1 r h' hq; exact nomatch hq
  | succ n ih => intro h x0 x1 r h' hq; exact l_X8_isWell_b28g ih hq

set_option maxRecDepth 100000 in
set_option maxHeartbeats 4000000 in
theorem l_X8_isWell {hi : jw_H} {h : jw_H} {x0 : Nat} {r : Int32} {h' : jw_H} (hq : f_X8_isWell  h x0 = some (r, h')) : jw_E 1 uX8_isWell hi 0 [some (.ref x0), none, none] [] h (.inl (some (.int r))) h' := by
  unfold f_X8_isWell at hq
  refine jw_aload_n dX8_isWell_0 (o := (some x0)) rfl ?_
  obtain ⟨v1, ev1, hq⟩ := Option.bind_eq_some_iff.mp hq
  refine jw_getR (o := (some x0)) dX8_isWell_1 ev1 fl_X8_14 rfl ?_
  obtain ⟨v2, ev2, hq⟩ := Option.bind_eq_some_iff.mp hq
  refine jw_getI (o := v1) dX8_isWell_4 ev2 fl_X8_39 rfl ?_
  refine jw_bipush dX8_isWell_7 (v := (40 : Int32)) (by decide) ?_
  rcases jw_if hq with ⟨c3, hq⟩ | ⟨c3, hq⟩
  · refine jw_icmp_gt_t (tgt := 24) dX8_isWell_9 (by decide) c3 ?_
    refine jw_iconst dX8_isWell_24 (v := (0 : Int32)) (by decide) ?_
    cases hq
    exact jw_iret (ty := .boolean) dX8_isWell_25 rfl rfl
  · refine jw_icmp_gt_f (tgt := 24) dX8_isWell_9 (by decide) c3 ?_
    refine jw_aload_n dX8_isWell_12 (o := (some x0)) rfl ?_
    obtain ⟨v4, ev4, hq⟩ := Option.bind_eq_some_iff.mp hq
    refine jw_getR (o := (some x0)) dX8_isWell_13 ev4 fl_X8_20 rfl ?_
    obtain ⟨v5, ev5, hq⟩ := Option.bind_eq_some_iff.mp hq
    refine jw_getI (o := v4) dX8_isWell_16 ev5 fl_X8_39 rfl ?_
    refine jw_bipush dX8_isWell_19 (v := (100 : Int32)) (by decide) ?_
    rcases jw_if hq with ⟨c6, hq⟩ | ⟨c6, hq⟩
    · refine jw_icmp_le_t (tgt := 26) dX8_isWell_21 (by decide) c6 ?_
      refine jw_iconst dX8_isWell_26 (v := (0 : Int32)) (by decide) ?_
      refine jw_istore_n (L' := [some (.ref x0), some (.int (0 : Int32)), none]) dX8_isWell_27 (Nat.le_of_ble_eq_true rfl) rfl ?_
      exact l_X8_isWell_b28  jw_FU _ _ _ _ _ hq
    · refine jw_icmp_le_f (tgt := 26) dX8_isWell_21 (by decide) c6 ?_
      refine jw_iconst dX8_isWell_24 (v := (0 : Int32)) (by decide) ?_
      cases hq
      exact jw_iret (ty := .boolean) dX8_isWell_25 rfl rfl

theorem c_X8_isWell {h : jw_H} {x0 : Nat} {r : Int32} {h' : jw_H} (hq : f_X8_isWell h x0 = some (r, h')) : jw_Con (Cond.code yX8_isWell cX8_isWell 3 (some .boolean)) yX8_isWell 1 [.ref x0] h (.inl (some (.int r))) h' :=
  jw_con false (plainFor_of_name (by decide +kernel)) (fun z => nomatch z) (by simp [jw_ent, jw_sl0_nil, jw_sl0_int, jw_sl0_long, jw_sl0_ref, jw_sl0_rf, jw_sl0_scr, List.replicate]) (by simp [jw_sl0_nil, jw_sl0_int, jw_sl0_long, jw_sl0_ref, jw_sl0_rf, jw_sl0_scr]) (l_X8_isWell hq)


/-! X11_isSound -/
noncomputable def g_X11_isSound_b25 (h : jw_H) (t0 : Int32) : Option (Int32 × jw_H) :=
 (jw_rb t0).bind fun v1 =>
 some (t0, h)

noncomputable def g_X11_isSound_b24 (h : jw_H)  : Option (Int32 × jw_H) :=
 g_X11_isSound_b25  h (0 : Int32)

noncomputable def f_X11_isSound (h : jw_H) (x0 : Nat) : Option (Int32 × jw_H) :=
 (jw_gR h 11 (some x0) 6).bind fun v1 =>
 (jw_rc h 9 v1).bind fun a2 =>
 jw_b2 (f_X9_isWell h a2) fun w4 h3 =>
 if w4 = 0 then (g_X11_isSound_b24  h3 )
 else ((jw_gR h3 11 (some x0) 7).bind fun v6 =>
 (jw_rc h3 8 v6).bind fun a7 =>
 jw_b2 (f_X8_isWell h3 a7) fun w9 h8 =>
 if w9 = 0 then (g_X11_isSound_b24  h8 )
 else (g_X11_isSound_b25  h8 (1 : Int32)))

set_option maxRecDepth 100000 in
set_option maxHeartbeats 4000000 in
theorem l_X11_isSound_b25 {hi : jw_H} {h : jw_H} {t0 : Int32} {r : Int32} {h' : jw_H} (hq : g_X11_isSound_b25  h t0 = some (r, h')) : jw_E 3 uX11_isSound hi 25 [none] [.int t0] h (.inl (some (.int r))) h' := by
  unfold g_X11_isSound_b25 at hq
  obtain ⟨v1, ev1, hq⟩ := Option.bind_eq_some_iff.mp hq
  cases hq
  exact jw_iret (ty := .boolean) dX11_isSound_25 rfl (jw_rb_spec ev1)

set_option maxRecDepth 100000 in
set_option maxHeartbeats 4000000 in
theorem l_X11_isSound_b24 {hi : jw_H} {h : jw_H}  {r : Int32} {h' : jw_H} (hq : g_X11_isSound_b24  h  = some (r, h')) : jw_E 3 uX11_isSound hi 24 [none] [] h (.inl (some (.int r))) h' := by
  unfold g_X11_isSound_b24 at hq
  refine jw_iconst dX11_isSound_24 (v := (0 : Int32)) (by decide) ?_
  exact l_X11_isSound_b25  hq

set_option maxRecDepth 100000 in
set_option maxHeartbeats 4000000 in
theorem l_X11_isSound {hi : jw_H} {h : jw_H} {x0 : Nat} {r : Int32} {h' : jw_H} (hq : f_X11_isSound  h x0 = some (r, h')) : jw_E 3 uX11_isSound hi 0 [some (.ref x0)] [] h (.inl (some (.int r))) h' := by
  unfold f_X11_isSound at hq
  refine jw_aload_n dX11_isSound_0 (o := (some x0)) rfl ?_
  obtain ⟨v1, ev1, hq⟩ := Option.bind_eq_some_iff.mp hq
  refine jw_getR (o := (some x0)) dX11_isSound_1 ev1 fl_X11_38 rfl ?_
  obtain ⟨a2, ea2, hq⟩ := Option.bind_eq_some_iff.mp hq
  obtain ⟨eoa2, eta2⟩ := jw_rc_spec ea2
  obtain ⟨w4, h3, ew4, hq⟩ := jw_b2_spec hq
  refine jw_callV (As := []) (S := []) (a := a2) (v := some (.int w4)) dX11_isSound_4 mt_X9_isWell in_X9_isWell se_X9_isWell lk_X11_251 (c_X9_isWell ew4) eta2 (by decide) rfl rfl (by decide) (Nat.le_of_ble_eq_true rfl) (by cases eoa2; rfl) ?_
  rcases jw_if hq with ⟨c5, hq⟩ | ⟨c5, hq⟩
  · refine jw_if_eq_t (tgt := 24) dX11_isSound_7 (by decide) c5 ?_
    refine jw_forget [false] (L' := [none]) rfl ?_
    exact l_X11_isSound_b24  hq
  · refine jw_if_eq_f (tgt := 24) dX11_isSound_7 (by decide) c5 ?_
    refine jw_aload_n dX11_isSound_10 (o := (some x0)) rfl ?_
    obtain ⟨v6, ev6, hq⟩ := Option.bind_eq_some_iff.mp hq
    refine jw_getR (o := (some x0)) dX11_isSound_11 ev6 fl_X11_45 rfl ?_
    obtain ⟨a7, ea7, hq⟩ := Option.bind_eq_some_iff.mp hq
    obtain ⟨eoa7, eta7⟩ := jw_rc_spec ea7
    obtain ⟨w9, h8, ew9, hq⟩ := jw_b2_spec hq
    refine jw_callV (As := []) (S := []) (a := a7) (v := some (.int w9)) dX11_isSound_14 mt_X8_isWell in_X8_isWell se_X8_isWell lk_X11_255 (c_X8_isWell ew9) eta7 (by decide) rfl rfl (by decide) (Nat.le_of_ble_eq_true rfl) (by cases eoa7; rfl) ?_
    rcases jw_if hq with ⟨c10, hq⟩ | ⟨c10, hq⟩
    · refine jw_if_eq_t (tgt := 24) dX11_isSound_17 (by decide) c10 ?_
      refine jw_forget [false] (L' := [none]) rfl ?_
      exact l_X11_isSound_b24  hq
    · refine jw_if_eq_f (tgt := 24) dX11_isSound_17 (by decide) c10 ?_
      refine jw_iconst dX11_isSound_20 (v := (1 : Int32)) (by decide) ?_
      refine jw_goto (tgt := 25) dX11_isSound_21 (by decide) ?_
      refine jw_forget [false] (L' := [none]) rfl ?_
      exact l_X11_isSound_b25  hq

theorem c_X11_isSound {h : jw_H} {x0 : Nat} {r : Int32} {h' : jw_H} (hq : f_X11_isSound h x0 = some (r, h')) : jw_Con (Cond.code yX11_isSound cX11_isSound 1 (some .boolean)) yX11_isSound 3 [.ref x0] h (.inl (some (.int r))) h' :=
  jw_con false (plainFor_of_name (by decide +kernel)) (fun z => nomatch z) (by simp [jw_ent, jw_sl0_nil, jw_sl0_int, jw_sl0_long, jw_sl0_ref, jw_sl0_rf, jw_sl0_scr, List.replicate]) (by simp [jw_sl0_nil, jw_sl0_int, jw_sl0_long, jw_sl0_ref, jw_sl0_rf, jw_sl0_scr]) (l_X11_isSound hq)


/-! X11_reason -/
noncomputable def f_X11_reason (h : jw_H) (x0 : Nat) : Option (Int32 × jw_H) :=
 (jw_gI h 11 (some x0) 14).bind fun v1 =>
 some (v1, h)

set_option maxRecDepth 100000 in
set_option maxHeartbeats 4000000 in
theorem l_X11_reason {hi : jw_H} {h : jw_H} {x0 : Nat} {r : Int32} {h' : jw_H} (hq : f_X11_reason  h x0 = some (r, h')) : jw_E 0 uX11_reason hi 0 [some (.ref x0)] [] h (.inl (some (.int r))) h' := by
  unfold f_X11_reason at hq
  refine jw_aload_n dX11_reason_0 (o := (some x0)) rfl ?_
  obtain ⟨v1, ev1, hq⟩ := Option.bind_eq_some_iff.mp hq
  refine jw_getI (o := (some x0)) dX11_reason_1 ev1 fl_X11_123 rfl ?_
  cases hq
  exact jw_iret (ty := .int) dX11_reason_4 rfl rfl

theorem c_X11_reason {h : jw_H} {x0 : Nat} {r : Int32} {h' : jw_H} (hq : f_X11_reason h x0 = some (r, h')) : jw_Con (Cond.code yX11_reason cX11_reason 1 (some .int)) yX11_reason 0 [.ref x0] h (.inl (some (.int r))) h' :=
  jw_con false (plainFor_of_name (by decide +kernel)) (fun z => nomatch z) (by simp [jw_ent, jw_sl0_nil, jw_sl0_int, jw_sl0_long, jw_sl0_ref, jw_sl0_rf, jw_sl0_scr, List.replicate]) (by simp [jw_sl0_nil, jw_sl0_int, jw_sl0_long, jw_sl0_ref, jw_sl0_rf, jw_sl0_scr]) (l_X11_reason hq)


/-! X3_latestCall -/
noncomputable def g_X3_latestCall_b41 (h : jw_H) (t0 : Int32) : Option (Int32 × jw_H) :=
 some (t0, h)

noncomputable def g_X3_latestCall_b40 (h : jw_H)  : Option (Int32 × jw_H) :=
 g_X3_latestCall_b41  h (-1 : Int32)

noncomputable def f_X3_latestCall (h : jw_H) (x0 : Nat) : Option (Int32 × jw_H) :=
 (jw_gI h 3 (some x0) 3).bind fun v1 =>
 (jw_rc h 3 (some x0)).bind fun a2 =>
 jw_b2 (f_X3_slotOf h a2 (v1 - (1 : Int32))) fun w4 h3 =>
 (jw_gI h3 3 (some x0) 3).bind fun v5 =>
 if v5 ≤ 0 then (g_X3_latestCall_b40  h3 )
 else (if w4 < 0 then (g_X3_latestCall_b40  h3 )
 else ((jw_gR h3 3 (some x0) 1).bind fun v8 =>
 (jw_ln h3 v8).bind fun v9 =>
 if v9 ≤ w4 then (g_X3_latestCall_b40  h3 )
 else ((jw_gR h3 3 (some x0) 1).bind fun v11 =>
 (jw_ai h3 20 v11 w4).bind fun v12 =>
 g_X3_latestCall_b41  h3 v12)))

set_option maxRecDepth 100000 in
set_option maxHeartbeats 4000000 in
theorem l_X3_latestCall_b41 {hi : jw_H} {h : jw_H} {t0 : Int32} {r : Int32} {h' : jw_H} (hq : g_X3_latestCall_b41  h t0 = some (r, h')) : jw_E 2 uX3_latestCall hi 41 [none, none] [.int t0] h (.inl (some (.int r))) h' := by
  unfold g_X3_latestCall_b41 at hq
  cases hq
  exact jw_iret (ty := .int) dX3_latestCall_41 rfl rfl

set_option maxRecDepth 100000 in
set_option maxHeartbeats 4000000 in
theorem l_X3_latestCall_b40 {hi : jw_H} {h : jw_H}  {r : Int32} {h' : jw_H} (hq : g_X3_latestCall_b40  h  = some (r, h')) : jw_E 2 uX3_latestCall hi 40 [none, none] [] h (.inl (some (.int r))) h' := by
  unfold g_X3_latestCall_b40 at hq
  refine jw_iconst dX3_latestCall_40 (v := (-1 : Int32)) (by decide) ?_
  exact l_X3_latestCall_b41  hq

set_option maxRecDepth 100000 in
set_option maxHeartbeats 4000000 in
theorem l_X3_latestCall {hi : jw_H} {h : jw_H} {x0 : Nat} {r : Int32} {h' : jw_H} (hq : f_X3_latestCall  h x0 = some (r, h')) : jw_E 2 uX3_latestCall hi 0 [some (.ref x0), none] [] h (.inl (some (.int r))) h' := by
  unfold f_X3_latestCall at hq
  refine jw_aload_n dX3_latestCall_0 (o := (some x0)) rfl ?_
  refine jw_aload_n dX3_latestCall_1 (o := (some x0)) rfl ?_
  obtain ⟨v1, ev1, hq⟩ := Option.bind_eq_some_iff.mp hq
  refine jw_getI (o := (some x0)) dX3_latestCall_2 ev1 fl_X3_36 rfl ?_
  refine jw_iconst dX3_latestCall_5 (v := (1 : Int32)) (by decide) ?_
  refine jw_isub dX3_latestCall_6 ?_
  obtain ⟨a2, ea2, hq⟩ := Option.bind_eq_some_iff.mp hq
  obtain ⟨eoa2, eta2⟩ := jw_rc_spec ea2
  obtain ⟨w4, h3, ew4, hq⟩ := jw_b2_spec hq
  refine jw_callV (As := [.int (v1 - (1 : Int32))]) (S := []) (a := a2) (v := some (.int w4)) dX3_latestCall_7 mt_X3_slotOf in_X3_slotOf se_X3_slotOf lk_X3_32 (c_X3_slotOf ew4) eta2 (by decide) rfl rfl (by decide) (Nat.le_of_ble_eq_true rfl) (by cases eoa2; rfl) ?_
  refine jw_istore_n (L' := [some (.ref x0), some (.int w4)]) dX3_latestCall_10 (Nat.le_of_ble_eq_true rfl) rfl ?_
  refine jw_aload_n dX3_latestCall_11 (o := (some x0)) rfl ?_
  obtain ⟨v5, ev5, hq⟩ := Option.bind_eq_some_iff.mp hq
  refine jw_getI (o := (some x0)) dX3_latestCall_12 ev5 fl_X3_36 rfl ?_
  rcases jw_if hq with ⟨c6, hq⟩ | ⟨c6, hq⟩
  · refine jw_if_le_t (tgt := 40) dX3_latestCall_15 (by decide) c6 ?_
    refine jw_forget [false, false] (L' := [none, none]) rfl ?_
    exact l_X3_latestCall_b40  hq
  · refine jw_if_le_f (tgt := 40) dX3_latestCall_15 (by decide) c6 ?_
    refine jw_iload_n dX3_latestCall_18 rfl ?_
    rcases jw_if hq with ⟨c7, hq⟩ | ⟨c7, hq⟩
    · refine jw_if_lt_t (tgt := 40) dX3_latestCall_19 (by decide) c7 ?_
      refine jw_forget [false, false] (L' := [none, none]) rfl ?_
      exact l_X3_latestCall_b40  hq
    · refine jw_if_lt_f (tgt := 40) dX3_latestCall_19 (by decide) c7 ?_
      refine jw_iload_n dX3_latestCall_22 rfl ?_
      refine jw_aload_n dX3_latestCall_23 (o := (some x0)) rfl ?_
      obtain ⟨v8, ev8, hq⟩ := Option.bind_eq_some_iff.mp hq
      refine jw_getR (o := (some x0)) dX3_latestCall_24 ev8 fl_X3_17 rfl ?_
      obtain ⟨v9, ev9, hq⟩ := Option.bind_eq_some_iff.mp hq
      refine jw_alen (o := v8) dX3_latestCall_27 ev9 ?_
      rcases jw_if hq with ⟨c10, hq⟩ | ⟨c10, hq⟩
      · refine jw_icmp_ge_t (tgt := 40) dX3_latestCall_28 (by decide) c10 ?_
        refine jw_forget [false, false] (L' := [none, none]) rfl ?_
        exact l_X3_latestCall_b40  hq
      · refine jw_icmp_ge_f (tgt := 40) dX3_latestCall_28 (by decide) c10 ?_
        refine jw_aload_n dX3_latestCall_31 (o := (some x0)) rfl ?_
        obtain ⟨v11, ev11, hq⟩ := Option.bind_eq_some_iff.mp hq
        refine jw_getR (o := (some x0)) dX3_latestCall_32 ev11 fl_X3_17 rfl ?_
        refine jw_iload_n dX3_latestCall_35 rfl ?_
        obtain ⟨v12, ev12, hq⟩ := Option.bind_eq_some_iff.mp hq
        refine jw_iald (o := v11) dX3_latestCall_36 ev12 ?_
        refine jw_goto (tgt := 41) dX3_latestCall_37 (by decide) ?_
        refine jw_forget [false, false] (L' := [none, none]) rfl ?_
        exact l_X3_latestCall_b41  hq

theorem c_X3_latestCall {h : jw_H} {x0 : Nat} {r : Int32} {h' : jw_H} (hq : f_X3_latestCall h x0 = some (r, h')) : jw_Con (Cond.code yX3_latestCall cX3_latestCall 2 (some .int)) yX3_latestCall 2 [.ref x0] h (.inl (some (.int r))) h' :=
  jw_con false (plainFor_of_name (by decide +kernel)) (fun z => nomatch z) (by simp [jw_ent, jw_sl0_nil, jw_sl0_int, jw_sl0_long, jw_sl0_ref, jw_sl0_rf, jw_sl0_scr, List.replicate]) (by simp [jw_sl0_nil, jw_sl0_int, jw_sl0_long, jw_sl0_ref, jw_sl0_rf, jw_sl0_scr]) (l_X3_latestCall hq)


/-! X3_takeBack -/
noncomputable def f_X3_takeBack (h : jw_H) (x0 : Nat) (x1 : Option Nat) : Option (Unit × jw_H) :=
 (jw_gI h 3 (some x0) 3).bind fun v1 =>
 if 0 < v1 then ((jw_gI h 3 (some x0) 3).bind fun v3 =>
 (jw_pI h 3 (some x0) 3 (v3 - (1 : Int32))).bind fun h4 =>
 (jw_gI h4 3 (some x0) 3).bind fun v5 =>
 (jw_rc h4 3 (some x0)).bind fun a6 =>
 jw_b2 (f_X3_slot h4 a6 v5) fun w8 h7 =>
 if w8 = none then (some ((), h7))
 else ((jw_rc h7 9 x1).bind fun a10 =>
 jw_b2 (f_X9_copy h7 a10 w8) fun w12 h11 =>
 some ((), h11)))
 else (some ((), h))

set_option maxRecDepth 100000 in
set_option maxHeartbeats 4000000 in
theorem l_X3_takeBack {hi : jw_H} {h : jw_H} {x0 : Nat} {x1 : Option Nat} {r : Unit} {h' : jw_H} (hq : f_X3_takeBack  h x0 x1 = some (r, h')) : jw_E 3 uX3_takeBack hi 0 [some (.ref x0), some (va_rf x1), none] [] h (.inl none) h' := by
  unfold f_X3_takeBack at hq
  refine jw_aload_n dX3_takeBack_0 (o := (some x0)) rfl ?_
  obtain ⟨v1, ev1, hq⟩ := Option.bind_eq_some_iff.mp hq
  refine jw_getI (o := (some x0)) dX3_takeBack_1 ev1 fl_X3_36 rfl ?_
  rcases jw_if hq with ⟨c2, hq⟩ | ⟨c2, hq⟩
  · refine jw_if_gt_t (tgt := 8) dX3_takeBack_4 (by decide) c2 ?_
    refine jw_aload_n dX3_takeBack_8 (o := (some x0)) rfl ?_
    refine jw_dup dX3_takeBack_9 rfl ?_
    obtain ⟨v3, ev3, hq⟩ := Option.bind_eq_some_iff.mp hq
    refine jw_getI (o := (some x0)) dX3_takeBack_10 ev3 fl_X3_36 rfl ?_
    refine jw_iconst dX3_takeBack_13 (v := (1 : Int32)) (by decide) ?_
    refine jw_isub dX3_takeBack_14 ?_
    obtain ⟨h4, eh4, hq⟩ := Option.bind_eq_some_iff.mp hq
    refine jw_putI (o := (some x0)) dX3_takeBack_15 eh4 fl_X3_36 rfl rfl ?_
    refine jw_aload_n dX3_takeBack_18 (o := (some x0)) rfl ?_
    refine jw_aload_n dX3_takeBack_19 (o := (some x0)) rfl ?_
    obtain ⟨v5, ev5, hq⟩ := Option.bind_eq_some_iff.mp hq
    refine jw_getI (o := (some x0)) dX3_takeBack_20 ev5 fl_X3_36 rfl ?_
    obtain ⟨a6, ea6, hq⟩ := Option.bind_eq_some_iff.mp hq
    obtain ⟨eoa6, eta6⟩ := jw_rc_spec ea6
    obtain ⟨w8, h7, ew8, hq⟩ := jw_b2_spec hq
    refine jw_callV (As := [.int v5]) (S := []) (a := a6) (v := some (va_rf w8)) dX3_takeBack_23 mt_X3_slot in_X3_slot se_X3_slot lk_X3_39 (c_X3_slot ew8) eta6 (by decide) rfl rfl (by decide) (Nat.le_of_ble_eq_true rfl) (by cases eoa6; rfl) ?_
    refine jw_astore_n (o := w8) (L' := [some (.ref x0), some (va_rf x1), some (va_rf w8)]) dX3_takeBack_26 (Nat.le_of_ble_eq_true rfl) ((jw_st1_of (j := 1) jw_long_rf).trans rfl) ?_
    refine jw_aload_n dX3_takeBack_27 (o := w8) rfl ?_
    rcases jw_if hq with ⟨c9, hq⟩ | ⟨c9, hq⟩
    · refine jw_ifnull_t (o := w8) (tgt := 36) dX3_takeBack_28 (by decide) c9 ?_
      cases hq
      exact jw_vret dX3_takeBack_36 rfl
    · refine jw_ifnull_f (o := w8) dX3_takeBack_28 c9 ?_
      refine jw_aload_n dX3_takeBack_31 (o := x1) rfl ?_
      refine jw_aload_n dX3_takeBack_32 (o := w8) rfl ?_
      obtain ⟨a10, ea10, hq⟩ := Option.bind_eq_some_iff.mp hq
      obtain ⟨eoa10, eta10⟩ := jw_rc_spec ea10
      obtain ⟨w12, h11, ew12, hq⟩ := jw_b2_spec hq
      refine jw_callV (As := [va_rf w8]) (S := []) (a := a10) (v := none) dX3_takeBack_33 mt_X9_copy in_X9_copy se_X9_copy lk_X3_43 (c_X9_copy ew12) eta10 (by decide) rfl rfl (by decide) (Nat.le_of_ble_eq_true rfl) (by cases eoa10; rfl) ?_
      cases hq
      exact jw_vret dX3_takeBack_36 rfl
  · refine jw_if_gt_f (tgt := 8) dX3_takeBack_4 (by decide) c2 ?_
    cases hq
    exact jw_vret dX3_takeBack_7 rfl

theorem c_X3_takeBack {h : jw_H} {x0 : Nat} {x1 : Option Nat} {r : Unit} {h' : jw_H} (hq : f_X3_takeBack h x0 x1 = some (r, h')) : jw_Con (Cond.code yX3_takeBack cX3_takeBack 3 none) yX3_takeBack 3 [.ref x0, va_rf x1] h (.inl none) h' :=
  jw_con false (plainFor_of_name (by decide +kernel)) (fun z => nomatch z) (by simp [jw_ent, jw_sl0_nil, jw_sl0_int, jw_sl0_long, jw_sl0_ref, jw_sl0_rf, jw_sl0_scr, List.replicate]) (by simp [jw_sl0_nil, jw_sl0_int, jw_sl0_long, jw_sl0_ref, jw_sl0_rf, jw_sl0_scr]) (l_X3_takeBack hq)


/-! X11_undoRun -/
noncomputable def g_X11_undoRun_b38 (k38 : jw_H → Nat → Int32 → Int32 → Int32 → Option ((Int32 ⊕ String) × jw_H)) (h : jw_H) (x0 : Nat) (x1 : Int32) (x2 : Int32) (x3 : Int32) : Option ((Int32 ⊕ String) × jw_H) :=
 if x3 ≤ 0 then (some (Sum.inl x2, h))
 else ((jw_gR h 11 (some x0) 11).bind fun v2 =>
 (jw_rc h 3 v2).bind fun a3 =>
 jw_b2 (f_X3_latestCall h a3) fun w5 h4 =>
 if w5 = x1 then ((jw_gR h4 11 (some x0) 11).bind fun v7 =>
 (jw_gR h4 11 (some x0) 6).bind fun v8 =>
 (jw_rc h4 3 v7).bind fun a9 =>
 jw_b2 (f_X3_takeBack h4 a9 v8) fun w11 h10 =>
 k38 h10 x0 x1 (x2 + (1 : Int32)) (x3 + (-1 : Int32)))
 else (some (Sum.inl x2, h4)))

noncomputable def f_X11_undoRun_b38 (n : Nat) : jw_H → Nat → Int32 → Int32 → Int32 → Option ((Int32 ⊕ String) × jw_H) :=
 Nat.rec (fun _ _ _ _ _ => none) (fun _ k38 => g_X11_undoRun_b38 k38) n

noncomputable def f_X11_undoRun (h : jw_H) (x0 : Nat) : Option ((Int32 ⊕ String) × jw_H) :=
 (jw_gR h 11 (some x0) 11).bind fun v1 =>
 (jw_gI h 3 v1 3).bind fun v2 =>
 if v2 = 0 then (some (Sum.inr "java/lang/IllegalStateException", jw_thw h))
 else ((jw_gR h 11 (some x0) 11).bind fun v4 =>
 (jw_rc h 3 v4).bind fun a5 =>
 jw_b2 (f_X3_latestCall h a5) fun w7 h6 =>
 (jw_gR h6 11 (some x0) 11).bind fun v8 =>
 (jw_gI h6 3 v8 3).bind fun v9 =>
 f_X11_undoRun_b38  jw_FU h6 x0 w7 (0 : Int32) v9)

set_option maxRecDepth 100000 in
set_option maxHeartbeats 4000000 in
theorem l_X11_undoRun_b38g {hi : jw_H} {k38 : jw_H → Nat → Int32 → Int32 → Int32 → Option ((Int32 ⊕ String) × jw_H)} (hk38 : ∀ (h : jw_H) (x0 : Nat) (x1 : Int32) (x2 : Int32) (x3 : Int32) (r : Int32 ⊕ String) (h' : jw_H), k38 h x0 x1 x2 x3 = some (r, h') → jw_E 8 uX11_undoRun hi 38 [some (.ref x0), some (.int x1), some (.int x2), some (.int x3)] [] h (jw_res r) h') {h : jw_H} {x0 : Nat} {x1 : Int32} {x2 : Int32} {x3 : Int32} {r : Int32 ⊕ String} {h' : jw_H} (hq : g_X11_undoRun_b38 k38 h x0 x1 x2 x3 = some (r, h')) : jw_E 8 uX11_undoRun hi 38 [some (.ref x0), some (.int x1), some (.int x2), some (.int x3)] [] h (jw_res r) h' := by
  unfold g_X11_undoRun_b38 at hq
  refine jw_iload_n dX11_undoRun_38 rfl ?_
  rcases jw_if hq with ⟨c1, hq⟩ | ⟨c1, hq⟩
  · refine jw_if_le_t (tgt := 73) dX11_undoRun_39 (by decide) c1 ?_
    refine jw_iload_n dX11_undoRun_73 rfl ?_
    cases hq
    exact jw_iret (ty := .int) dX11_undoRun_74 rfl rfl
  · refine jw_if_le_f (tgt := 73) dX11_undoRun_39 (by decide) c1 ?_
    refine jw_aload_n dX11_undoRun_42 (o := (some x0)) rfl ?_
    obtain ⟨v2, ev2, hq⟩ := Option.bind_eq_some_iff.mp hq
    refine jw_getR (o := (some x0)) dX11_undoRun_43 ev2 fl_X11_52 rfl ?_
    obtain ⟨a3, ea3, hq⟩ := Option.bind_eq_some_iff.mp hq
    obtain ⟨eoa3, eta3⟩ := jw_rc_spec ea3
    obtain ⟨w5, h4, ew5, hq⟩ := jw_b2_spec hq
    refine jw_callV (As := []) (S := []) (a := a3) (v := some (.int w5)) dX11_undoRun_46 mt_X3_latestCall in_X3_latestCall se_X3_latestCall lk_X11_157 (c_X3_latestCall ew5) eta3 (by decide) rfl rfl (by decide) (Nat.le_of_ble_eq_true rfl) (by cases eoa3; rfl) ?_
    refine jw_iload_n dX11_undoRun_49 rfl ?_
    rcases jw_if hq with ⟨c6, hq⟩ | ⟨c6, hq⟩
    · refine jw_icmp_ne_f (tgt := 73) dX11_undoRun_50 (by decide) c6 ?_
      refine jw_aload_n dX11_undoRun_53 (o := (some x0)) rfl ?_
      obtain ⟨v7, ev7, hq⟩ := Option.bind_eq_some_iff.mp hq
      refine jw_getR (o := (some x0)) dX11_undoRun_54 ev7 fl_X11_52 rfl ?_
      refine jw_aload_n dX11_undoRun_57 (o := (some x0)) rfl ?_
      obtain ⟨v8, ev8, hq⟩ := Option.bind_eq_some_iff.mp hq
      refine jw_getR (o := (some x0)) dX11_undoRun_58 ev8 fl_X11_38 rfl ?_
      obtain ⟨a9, ea9, hq⟩ := Option.bind_eq_some_iff.mp hq
      obtain ⟨eoa9, eta9⟩ := jw_rc_spec ea9
      obtain ⟨w11, h10, ew11, hq⟩ := jw_b2_spec hq
      refine jw_callV (As := [va_rf v8]) (S := []) (a := a9) (v := none) dX11_undoRun_61 mt_X3_takeBack in_X3_takeBack se_X3_takeBack lk_X11_154 (c_X3_takeBack ew11) eta9 (by decide) rfl rfl (by decide) (Nat.le_of_ble_eq_true rfl) (by cases eoa9; rfl) ?_
      refine jw_iinc (L' := [some (.ref x0), some (.int x1), some (.int (x2 + (1 : Int32))), some (.int x3)]) dX11_undoRun_64 rfl (v := (1 : Int32)) (by decide) (Nat.le_of_ble_eq_true rfl) rfl ?_
      refine jw_iinc (L' := [some (.ref x0), some (.int x1), some (.int (x2 + (1 : Int32))), some (.int (x3 + (-1 : Int32)))]) dX11_undoRun_67 rfl (v := (-1 : Int32)) (by decide) (Nat.le_of_ble_eq_true rfl) rfl ?_
      refine jw_goto (tgt := 38) dX11_undoRun_70 (by decide) ?_
      exact hk38 _ _ _ _ _ _ _ hq
    · refine jw_icmp_ne_t (tgt := 73) dX11_undoRun_50 (by decide) c6 ?_
      refine jw_iload_n dX11_undoRun_73 rfl ?_
      cases hq
      exact jw_iret (ty := .int) dX11_undoRun_74 rfl rfl

theorem l_X11_undoRun_b38 {hi : jw_H} : ∀ (n : Nat) (h : jw_H) (x0 : Nat) (x1 : Int32) (x2 : Int32) (x3 : Int32) (r : Int32 ⊕ String) (h' : jw_H), f_X11_undoRun_b38  n h x0 x1 x2 x3 = some (r, h') → jw_E 8 uX11_undoRun hi 38 [some (.ref x0), some (.int x1), some (.int x2), some (.int x3)] [] h (jw_res r) h' := by
  intro n
  induction n with
  | zero => intro h x0 x1 x2 x3 r h' hq; exact nomatch hq
  | succ n ih => intro h x0 x1 x2 x3 r h' hq; exact l_X11_undoRun_b38g ih hq

set_option maxRecDepth 100000 in
set_option maxHeartbeats 4000000 in
theorem l_X11_undoRun {hi : jw_H} {h : jw_H} {x0 : Nat} {r : Int32 ⊕ String} {h' : jw_H} (hq : f_X11_undoRun  h x0 = some (r, h')) : jw_E 8 uX11_undoRun hi 0 [some (.ref x0), none, none, none] [] h (jw_res r) h' := by
  unfold f_X11_undoRun at hq
  refine jw_aload_n dX11_undoRun_0 (o := (some x0)) rfl ?_
  obtain ⟨v1, ev1, hq⟩ := Option.bind_eq_some_iff.mp hq
  refine jw_getR (o := (some x0)) dX11_undoRun_1 ev1 fl_X11_52 rfl ?_
  obtain ⟨v2, ev2, hq⟩ := Option.bind_eq_some_iff.mp hq
  refine jw_getI (o := v1) dX11_undoRun_4 ev2 fl_X11_149 rfl ?_
  rcases jw_if hq with ⟨c3, hq⟩ | ⟨c3, hq⟩
  · refine jw_if_ne_f (tgt := 20) dX11_undoRun_7 (by decide) c3 ?_
    cases hq
    exact jw_throw th_X11_undoRun_10 (Nat.le_of_ble_eq_true rfl) (Nat.le_of_ble_eq_true rfl)
  · refine jw_if_ne_t (tgt := 20) dX11_undoRun_7 (by decide) c3 ?_
    refine jw_aload_n dX11_undoRun_20 (o := (some x0)) rfl ?_
    obtain ⟨v4, ev4, hq⟩ := Option.bind_eq_some_iff.mp hq
    refine jw_getR (o := (some x0)) dX11_undoRun_21 ev4 fl_X11_52 rfl ?_
    obtain ⟨a5, ea5, hq⟩ := Option.bind_eq_some_iff.mp hq
    obtain ⟨eoa5, eta5⟩ := jw_rc_spec ea5
    obtain ⟨w7, h6, ew7, hq⟩ := jw_b2_spec hq
    refine jw_callV (As := []) (S := []) (a := a5) (v := some (.int w7)) dX11_undoRun_24 mt_X3_latestCall in_X3_latestCall se_X3_latestCall lk_X11_157 (c_X3_latestCall ew7) eta5 (by decide) rfl rfl (by decide) (Nat.le_of_ble_eq_true rfl) (by cases eoa5; rfl) ?_
    refine jw_istore_n (L' := [some (.ref x0), some (.int w7), none, none]) dX11_undoRun_27 (Nat.le_of_ble_eq_true rfl) rfl ?_
    refine jw_iconst dX11_undoRun_28 (v := (0 : Int32)) (by decide) ?_
    refine jw_istore_n (L' := [some (.ref x0), some (.int w7), some (.int (0 : Int32)), none]) dX11_undoRun_29 (Nat.le_of_ble_eq_true rfl) rfl ?_
    refine jw_aload_n dX11_undoRun_30 (o := (some x0)) rfl ?_
    obtain ⟨v8, ev8, hq⟩ := Option.bind_eq_some_iff.mp hq
    refine jw_getR (o := (some x0)) dX11_undoRun_31 ev8 fl_X11_52 rfl ?_
    obtain ⟨v9, ev9, hq⟩ := Option.bind_eq_some_iff.mp hq
    refine jw_getI (o := v8) dX11_undoRun_34 ev9 fl_X11_149 rfl ?_
    refine jw_istore_n (L' := [some (.ref x0), some (.int w7), some (.int (0 : Int32)), some (.int v9)]) dX11_undoRun_37 (Nat.le_of_ble_eq_true rfl) rfl ?_
    exact l_X11_undoRun_b38  jw_FU _ _ _ _ _ _ _ hq

theorem c_X11_undoRun {h : jw_H} {x0 : Nat} {r : Int32 ⊕ String} {h' : jw_H} (hq : f_X11_undoRun h x0 = some (r, h')) : jw_Con (Cond.code yX11_undoRun cX11_undoRun 4 (some .int)) yX11_undoRun 8 [.ref x0] h (jw_res r) h' :=
  jw_con false (plainFor_of_name (by decide +kernel)) (fun z => nomatch z) (by simp [jw_ent, jw_sl0_nil, jw_sl0_int, jw_sl0_long, jw_sl0_ref, jw_sl0_rf, jw_sl0_scr, List.replicate]) (by simp [jw_sl0_nil, jw_sl0_int, jw_sl0_long, jw_sl0_ref, jw_sl0_rf, jw_sl0_scr]) (l_X11_undoRun hq)


/-! X11_isNoScript -/
noncomputable def g_X11_isNoScript_b14 (h : jw_H) (t0 : Int32) : Option (Int32 × jw_H) :=
 (jw_rb t0).bind fun v1 =>
 some (t0, h)

noncomputable def g_X11_isNoScript_b9 (h : jw_H)  : Option (Int32 × jw_H) :=
 g_X11_isNoScript_b14  h (1 : Int32)

noncomputable def f_X11_isNoScript (h : jw_H) (x0 : Nat) (x1 : Int32) : Option (Int32 × jw_H) :=
 if x1 < 0 then (g_X11_isNoScript_b9  h )
 else (if x1 < (4 : Int32) then (g_X11_isNoScript_b14  h (0 : Int32))
 else (g_X11_isNoScript_b9  h ))

set_option maxRecDepth 100000 in
set_option maxHeartbeats 4000000 in
theorem l_X11_isNoScript_b14 {hi : jw_H} {h : jw_H} {t0 : Int32} {r : Int32} {h' : jw_H} (hq : g_X11_isNoScript_b14  h t0 = some (r, h')) : jw_E 0 uX11_isNoScript hi 14 [none, none] [.int t0] h (.inl (some (.int r))) h' := by
  unfold g_X11_isNoScript_b14 at hq
  obtain ⟨v1, ev1, hq⟩ := Option.bind_eq_some_iff.mp hq
  cases hq
  exact jw_iret (ty := .boolean) dX11_isNoScript_14 rfl (jw_rb_spec ev1)

set_option maxRecDepth 100000 in
set_option maxHeartbeats 4000000 in
theorem l_X11_isNoScript_b9 {hi : jw_H} {h : jw_H}  {r : Int32} {h' : jw_H} (hq : g_X11_isNoScript_b9  h  = some (r, h')) : jw_E 0 uX11_isNoScript hi 9 [none, none] [] h (.inl (some (.int r))) h' := by
  unfold g_X11_isNoScript_b9 at hq
  refine jw_iconst dX11_isNoScript_9 (v := (1 : Int32)) (by decide) ?_
  refine jw_goto (tgt := 14) dX11_isNoScript_10 (by decide) ?_
  exact l_X11_isNoScript_b14  hq

set_option maxRecDepth 100000 in
set_option maxHeartbeats 4000000 in
theorem l_X11_isNoScript {hi : jw_H} {h : jw_H} {x0 : Nat} {x1 : Int32} {r : Int32} {h' : jw_H} (hq : f_X11_isNoScript  h x0 x1 = some (r, h')) : jw_E 0 uX11_isNoScript hi 0 [some (.ref x0), some (.int x1)] [] h (.inl (some (.int r))) h' := by
  unfold f_X11_isNoScript at hq
  refine jw_iload_n dX11_isNoScript_0 rfl ?_
  rcases jw_if hq with ⟨c1, hq⟩ | ⟨c1, hq⟩
  · refine jw_if_lt_t (tgt := 9) dX11_isNoScript_1 (by decide) c1 ?_
    refine jw_forget [false, false] (L' := [none, none]) rfl ?_
    exact l_X11_isNoScript_b9  hq
  · refine jw_if_lt_f (tgt := 9) dX11_isNoScript_1 (by decide) c1 ?_
    refine jw_iload_n dX11_isNoScript_4 rfl ?_
    refine jw_iconst dX11_isNoScript_5 (v := (4 : Int32)) (by decide) ?_
    rcases jw_if hq with ⟨c2, hq⟩ | ⟨c2, hq⟩
    · refine jw_icmp_lt_t (tgt := 13) dX11_isNoScript_6 (by decide) c2 ?_
      refine jw_iconst dX11_isNoScript_13 (v := (0 : Int32)) (by decide) ?_
      refine jw_forget [false, false] (L' := [none, none]) rfl ?_
      exact l_X11_isNoScript_b14  hq
    · refine jw_icmp_lt_f (tgt := 13) dX11_isNoScript_6 (by decide) c2 ?_
      refine jw_forget [false, false] (L' := [none, none]) rfl ?_
      exact l_X11_isNoScript_b9  hq

theorem c_X11_isNoScript {h : jw_H} {x0 : Nat} {x1 : Int32} {r : Int32} {h' : jw_H} (hq : f_X11_isNoScript h x0 x1 = some (r, h')) : jw_Con (Cond.code yX11_isNoScript cX11_isNoScript 2 (some .boolean)) yX11_isNoScript 0 [.ref x0, .int x1] h (.inl (some (.int r))) h' :=
  jw_con false (plainFor_of_name (by decide +kernel)) (fun z => nomatch z) (by simp [jw_ent, jw_sl0_nil, jw_sl0_int, jw_sl0_long, jw_sl0_ref, jw_sl0_rf, jw_sl0_scr, List.replicate]) (by simp [jw_sl0_nil, jw_sl0_int, jw_sl0_long, jw_sl0_ref, jw_sl0_rf, jw_sl0_scr]) (l_X11_isNoScript hq)


/-! X11_keep -/
noncomputable def g_X11_keep_b94 (h : jw_H) (x0 : Nat) (x1 : Int32) : Option ((Int32 ⊕ String) × jw_H) :=
 (jw_gR h 11 (some x0) 2).bind fun v1 =>
 (jw_gI h 11 (some x0) 12).bind fun v2 =>
 (jw_si h 20 v1 x1 v2).bind fun h3 =>
 (jw_gI h3 11 (some x0) 12).bind fun v4 =>
 some (Sum.inl v4, h3)

noncomputable def g_X11_keep_b56 (k56 : jw_H → Nat → Int32 → Option Nat → Int32 → Option ((Int32 ⊕ String) × jw_H)) (h : jw_H) (x0 : Nat) (x1 : Int32) (x2 : Option Nat) (x3 : Int32) : Option ((Int32 ⊕ String) × jw_H) :=
 (jw_gI h 11 (some x0) 12).bind fun v1 =>
 if v1 ≤ x3 then (g_X11_keep_b94  h x0 x1)
 else ((jw_ln h x2).bind fun v3 =>
 if v3 ≤ x3 then (g_X11_keep_b94  h x0 x1)
 else ((jw_gR h 11 (some x0) 0).bind fun v5 =>
 (jw_ln h v5).bind fun v6 =>
 if v6 ≤ x3 then (g_X11_keep_b94  h x0 x1)
 else ((jw_gR h 11 (some x0) 0).bind fun v8 =>
 (jw_ai h 21 v8 x3).bind fun v9 =>
 (jw_si h 21 x2 x3 (vp_nar .byte v9)).bind fun h10 =>
 k56 h10 x0 x1 x2 (x3 + (1 : Int32)))))

noncomputable def f_X11_keep_b56 (n : Nat) : jw_H → Nat → Int32 → Option Nat → Int32 → Option ((Int32 ⊕ String) × jw_H) :=
 Nat.rec (fun _ _ _ _ _ => none) (fun _ k56 => g_X11_keep_b56 k56) n

noncomputable def f_X11_keep (h : jw_H) (x0 : Nat) (x1 : Int32) : Option ((Int32 ⊕ String) × jw_H) :=
 (jw_rc h 11 (some x0)).bind fun a1 =>
 jw_b2 (f_X11_isNoScript h a1 x1) fun w3 h2 =>
 if w3 = 0 then ((jw_gR h2 11 (some x0) 5).bind fun v5 =>
 (jw_gR h2 11 (some x0) 0).bind fun v6 =>
 (jw_gI h2 11 (some x0) 12).bind fun v7 =>
 (jw_rc h2 6 v5).bind fun a8 =>
 jw_b2 (f_X6_readOrders h2 a8 v6 v7) fun w10 h9 =>
 if w10 = (-1 : Int32) then ((jw_gR h9 11 (some x0) 1).bind fun v12 =>
 (jw_ar h9 24 v12 x1).bind fun v13 =>
 f_X11_keep_b56  jw_FU h9 x0 x1 v13 (0 : Int32))
 else (some (Sum.inr "java/lang/IllegalStateException", jw_thw h9)))
 else (some (Sum.inr "java/lang/IndexOutOfBoundsException", jw_thw h2))

set_option maxRecDepth 100000 in
set_option maxHeartbeats 4000000 in
theorem l_X11_keep_b94 {hi : jw_H} {h : jw_H} {x0 : Nat} {x1 : Int32} {r : Int32 ⊕ String} {h' : jw_H} (hq : g_X11_keep_b94  h x0 x1 = some (r, h')) : jw_E 8 uX11_keep hi 94 [some (.ref x0), some (.int x1), none, none] [] h (jw_res r) h' := by
  unfold g_X11_keep_b94 at hq
  refine jw_aload_n dX11_keep_94 (o := (some x0)) rfl ?_
  obtain ⟨v1, ev1, hq⟩ := Option.bind_eq_some_iff.mp hq
  refine jw_getR (o := (some x0)) dX11_keep_95 ev1 fl_X11_18 rfl ?_
  refine jw_iload_n dX11_keep_98 rfl ?_
  refine jw_aload_n dX11_keep_99 (o := (some x0)) rfl ?_
  obtain ⟨v2, ev2, hq⟩ := Option.bind_eq_some_iff.mp hq
  refine jw_getI (o := (some x0)) dX11_keep_100 ev2 fl_X11_95 rfl ?_
  obtain ⟨h3, eh3, hq⟩ := Option.bind_eq_some_iff.mp hq
  refine jw_iast (o := v1) dX11_keep_103 eh3 ?_
  refine jw_aload_n dX11_keep_104 (o := (some x0)) rfl ?_
  obtain ⟨v4, ev4, hq⟩ := Option.bind_eq_some_iff.mp hq
  refine jw_getI (o := (some x0)) dX11_keep_105 ev4 fl_X11_95 rfl ?_
  cases hq
  exact jw_iret (ty := .int) dX11_keep_108 rfl rfl

set_option maxRecDepth 100000 in
set_option maxHeartbeats 4000000 in
theorem l_X11_keep_b56g {hi : jw_H} {k56 : jw_H → Nat → Int32 → Option Nat → Int32 → Option ((Int32 ⊕ String) × jw_H)} (hk56 : ∀ (h : jw_H) (x0 : Nat) (x1 : Int32) (x2 : Option Nat) (x3 : Int32) (r : Int32 ⊕ String) (h' : jw_H), k56 h x0 x1 x2 x3 = some (r, h') → jw_E 8 uX11_keep hi 56 [some (.ref x0), some (.int x1), some (va_rf x2), some (.int x3)] [] h (jw_res r) h') {h : jw_H} {x0 : Nat} {x1 : Int32} {x2 : Option Nat} {x3 : Int32} {r : Int32 ⊕ String} {h' : jw_H} (hq : g_X11_keep_b56 k56 h x0 x1 x2 x3 = some (r, h')) : jw_E 8 uX11_keep hi 56 [some (.ref x0), some (.int x1), some (va_rf x2), some (.int x3)] [] h (jw_res r) h' := by
  unfold g_X11_keep_b56 at hq
  refine jw_iload_n dX11_keep_56 rfl ?_
  refine jw_aload_n dX11_keep_57 (o := (some x0)) rfl ?_
  obtain ⟨v1, ev1, hq⟩ := Option.bind_eq_some_iff.mp hq
  refine jw_getI (o := (some x0)) dX11_keep_58 ev1 fl_X11_95 rfl ?_
  rcases jw_if hq with ⟨c2, hq⟩ | ⟨c2, hq⟩
  · refine jw_icmp_ge_t (tgt := 94) dX11_keep_61 (by decide) c2 ?_
    refine jw_forget [true, true, false, false] (L' := [some (.ref x0), some (.int x1), none, none]) rfl ?_
    exact l_X11_keep_b94  hq
  · refine jw_icmp_ge_f (tgt := 94) dX11_keep_61 (by decide) c2 ?_
    refine jw_iload_n dX11_keep_64 rfl ?_
    refine jw_aload_n dX11_keep_65 (o := x2) rfl ?_
    obtain ⟨v3, ev3, hq⟩ := Option.bind_eq_some_iff.mp hq
    refine jw_alen (o := x2) dX11_keep_66 ev3 ?_
    rcases jw_if hq with ⟨c4, hq⟩ | ⟨c4, hq⟩
    · refine jw_icmp_ge_t (tgt := 94) dX11_keep_67 (by decide) c4 ?_
      refine jw_forget [true, true, false, false] (L' := [some (.ref x0), some (.int x1), none, none]) rfl ?_
      exact l_X11_keep_b94  hq
    · refine jw_icmp_ge_f (tgt := 94) dX11_keep_67 (by decide) c4 ?_
      refine jw_iload_n dX11_keep_70 rfl ?_
      refine jw_aload_n dX11_keep_71 (o := (some x0)) rfl ?_
      obtain ⟨v5, ev5, hq⟩ := Option.bind_eq_some_iff.mp hq
      refine jw_getR (o := (some x0)) dX11_keep_72 ev5 fl_X11_9 rfl ?_
      obtain ⟨v6, ev6, hq⟩ := Option.bind_eq_some_iff.mp hq
      refine jw_alen (o := v5) dX11_keep_75 ev6 ?_
      rcases jw_if hq with ⟨c7, hq⟩ | ⟨c7, hq⟩
      · refine jw_icmp_ge_t (tgt := 94) dX11_keep_76 (by decide) c7 ?_
        refine jw_forget [true, true, false, false] (L' := [some (.ref x0), some (.int x1), none, none]) rfl ?_
        exact l_X11_keep_b94  hq
      · refine jw_icmp_ge_f (tgt := 94) dX11_keep_76 (by decide) c7 ?_
        refine jw_aload_n dX11_keep_79 (o := x2) rfl ?_
        refine jw_iload_n dX11_keep_80 rfl ?_
        refine jw_aload_n dX11_keep_81 (o := (some x0)) rfl ?_
        obtain ⟨v8, ev8, hq⟩ := Option.bind_eq_some_iff.mp hq
        refine jw_getR (o := (some x0)) dX11_keep_82 ev8 fl_X11_9 rfl ?_
        refine jw_iload_n dX11_keep_85 rfl ?_
        obtain ⟨v9, ev9, hq⟩ := Option.bind_eq_some_iff.mp hq
        refine jw_bald (o := v8) dX11_keep_86 ev9 ?_
        obtain ⟨h10, eh10, hq⟩ := Option.bind_eq_some_iff.mp hq
        refine jw_bast (o := x2) rfl dX11_keep_87 eh10 ?_
        refine jw_iinc (L' := [some (.ref x0), some (.int x1), some (va_rf x2), some (.int (x3 + (1 : Int32)))]) dX11_keep_88 rfl (v := (1 : Int32)) (by decide) (Nat.le_of_ble_eq_true rfl) ((jw_st1_of (j := 2) jw_long_rf).trans rfl) ?_
        refine jw_goto (tgt := 56) dX11_keep_91 (by decide) ?_
        exact hk56 _ _ _ _ _ _ _ hq

theorem l_X11_keep_b56 {hi : jw_H} : ∀ (n : Nat) (h : jw_H) (x0 : Nat) (x1 : Int32) (x2 : Option Nat) (x3 : Int32) (r : Int32 ⊕ String) (h' : jw_H), f_X11_keep_b56  n h x0 x1 x2 x3 = some (r, h') → jw_E 8 uX11_keep hi 56 [some (.ref x0), some (.int x1), some (va_rf x2), some (.int x3)] [] h (jw_res r) h' := by
  intro n
  induction n with
  | zero => intro h x0 x1 x2 x3 r h' hq; exact nomatch hq
  | succ n ih => intro h x0 x1 x2 x3 r h' hq; exact l_X11_keep_b56g ih hq

set_option maxRecDepth 100000 in
set_option maxHeartbeats 4000000 in
theorem l_X11_keep {hi : jw_H} {h : jw_H} {x0 : Nat} {x1 : Int32} {r : Int32 ⊕ String} {h' : jw_H} (hq : f_X11_keep  h x0 x1 = some (r, h')) : jw_E 8 uX11_keep hi 0 [some (.ref x0), some (.int x1), none, none] [] h (jw_res r) h' := by
  unfold f_X11_keep at hq
  refine jw_aload_n dX11_keep_0 (o := (some x0)) rfl ?_
  refine jw_iload_n dX11_keep_1 rfl ?_
  obtain ⟨a1, ea1, hq⟩ := Option.bind_eq_some_iff.mp hq
  obtain ⟨eoa1, eta1⟩ := jw_rc_spec ea1
  obtain ⟨w3, h2, ew3, hq⟩ := jw_b2_spec hq
  refine jw_callV (As := [.int x1]) (S := []) (a := a1) (v := some (.int w3)) dX11_keep_2 mt_X11_isNoScript in_X11_isNoScript se_X11_isNoScript lk_X11_126 (c_X11_isNoScript ew3) eta1 (by decide) rfl rfl (by decide) (Nat.le_of_ble_eq_true rfl) (by cases eoa1; rfl) ?_
  rcases jw_if hq with ⟨c4, hq⟩ | ⟨c4, hq⟩
  · refine jw_if_eq_t (tgt := 18) dX11_keep_5 (by decide) c4 ?_
    refine jw_aload_n dX11_keep_18 (o := (some x0)) rfl ?_
    obtain ⟨v5, ev5, hq⟩ := Option.bind_eq_some_iff.mp hq
    refine jw_getR (o := (some x0)) dX11_keep_19 ev5 fl_X11_31 rfl ?_
    refine jw_aload_n dX11_keep_22 (o := (some x0)) rfl ?_
    obtain ⟨v6, ev6, hq⟩ := Option.bind_eq_some_iff.mp hq
    refine jw_getR (o := (some x0)) dX11_keep_23 ev6 fl_X11_9 rfl ?_
    refine jw_aload_n dX11_keep_26 (o := (some x0)) rfl ?_
    obtain ⟨v7, ev7, hq⟩ := Option.bind_eq_some_iff.mp hq
    refine jw_getI (o := (some x0)) dX11_keep_27 ev7 fl_X11_95 rfl ?_
    obtain ⟨a8, ea8, hq⟩ := Option.bind_eq_some_iff.mp hq
    obtain ⟨eoa8, eta8⟩ := jw_rc_spec ea8
    obtain ⟨w10, h9, ew10, hq⟩ := jw_b2_spec hq
    refine jw_callV (As := [va_rf v6, .int v7]) (S := []) (a := a8) (v := some (.int w10)) dX11_keep_30 mt_X6_readOrders in_X6_readOrders se_X6_readOrders lk_X11_104 (c_X6_readOrders ew10) eta8 (by decide) rfl rfl (by decide) (Nat.le_of_ble_eq_true rfl) (by cases eoa8; rfl) ?_
    refine jw_iconst dX11_keep_33 (v := (-1 : Int32)) (by decide) ?_
    rcases jw_if hq with ⟨c11, hq⟩ | ⟨c11, hq⟩
    · refine jw_icmp_eq_t (tgt := 47) dX11_keep_34 (by decide) c11 ?_
      refine jw_aload_n dX11_keep_47 (o := (some x0)) rfl ?_
      obtain ⟨v12, ev12, hq⟩ := Option.bind_eq_some_iff.mp hq
      refine jw_getR (o := (some x0)) dX11_keep_48 ev12 fl_X11_15 rfl ?_
      refine jw_iload_n dX11_keep_51 rfl ?_
      obtain ⟨v13, ev13, hq⟩ := Option.bind_eq_some_iff.mp hq
      refine jw_aald2 (o := v12) dX11_keep_52 ev13 ?_
      refine jw_astore_n (o := v13) (L' := [some (.ref x0), some (.int x1), some (va_rf v13), none]) dX11_keep_53 (Nat.le_of_ble_eq_true rfl) rfl ?_
      refine jw_iconst dX11_keep_54 (v := (0 : Int32)) (by decide) ?_
      refine jw_istore_n (L' := [some (.ref x0), some (.int x1), some (va_rf v13), some (.int (0 : Int32))]) dX11_keep_55 (Nat.le_of_ble_eq_true rfl) ((jw_st1_of (j := 2) jw_long_rf).trans rfl) ?_
      exact l_X11_keep_b56  jw_FU _ _ _ _ _ _ _ hq
    · refine jw_icmp_eq_f (tgt := 47) dX11_keep_34 (by decide) c11 ?_
      cases hq
      exact jw_throw th_X11_keep_37 (Nat.le_of_ble_eq_true rfl) (Nat.le_of_ble_eq_true rfl)
  · refine jw_if_eq_f (tgt := 18) dX11_keep_5 (by decide) c4 ?_
    cases hq
    exact jw_throw th_X11_keep_8 (Nat.le_of_ble_eq_true rfl) (Nat.le_of_ble_eq_true rfl)

theorem c_X11_keep {h : jw_H} {x0 : Nat} {x1 : Int32} {r : Int32 ⊕ String} {h' : jw_H} (hq : f_X11_keep h x0 x1 = some (r, h')) : jw_Con (Cond.code yX11_keep cX11_keep 4 (some .int)) yX11_keep 8 [.ref x0, .int x1] h (jw_res r) h' :=
  jw_con false (plainFor_of_name (by decide +kernel)) (fun z => nomatch z) (by simp [jw_ent, jw_sl0_nil, jw_sl0_int, jw_sl0_long, jw_sl0_ref, jw_sl0_rf, jw_sl0_scr, List.replicate]) (by simp [jw_sl0_nil, jw_sl0_int, jw_sl0_long, jw_sl0_ref, jw_sl0_rf, jw_sl0_scr]) (l_X11_keep hq)

