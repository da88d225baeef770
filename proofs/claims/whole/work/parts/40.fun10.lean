/-! X12_workAct -/
noncomputable def g_X12_workAct_b74 (h : jw_H) (t0 : Nat) (t1 : Int32) (t2 : Int32) : Option (Int32 × jw_H) :=
 (jw_rc h 12 (some t0)).bind fun a1 =>
 jw_b2 (f_X12_changeWork h a1 t1 t2) fun w3 h2 =>
 some (w3, h2)

noncomputable def g_X12_workAct_b69 (h : jw_H) (t0 : Nat) (t1 : Int32) : Option (Int32 × jw_H) :=
 g_X12_workAct_b74  h t0 t1 (1 : Int32)

noncomputable def g_X12_workAct_b161 (h : jw_H) (t0 : Nat) (t1 : Int32) (t2 : Int32) : Option (Int32 × jw_H) :=
 (jw_rc h 12 (some t0)).bind fun a1 =>
 jw_b2 (f_X12_tellWork h a1 t1 t2) fun w3 h2 =>
 some (w3, h2)

noncomputable def g_X12_workAct_b150 (h : jw_H) (x3 : Int32) (t0 : Nat) (t1 : Int32) : Option (Int32 × jw_H) :=
 if x3 = (61 : Int32) then (g_X12_workAct_b161  h t0 t1 (0 : Int32))
 else (g_X12_workAct_b161  h t0 t1 (1 : Int32))

noncomputable def g_X12_workAct_b138 (h : jw_H) (x0 : Nat) (x3 : Int32) : Option (Int32 × jw_H) :=
 if x3 = (112 : Int32) then (g_X12_workAct_b150  h x3 x0 (0 : Int32))
 else (g_X12_workAct_b150  h x3 x0 (1 : Int32))

noncomputable def g_X12_workAct_b192 (h : jw_H) (t0 : Nat) (t1 : Int32) : Option (Int32 × jw_H) :=
 (jw_rc h 12 (some t0)).bind fun a1 =>
 jw_b2 (f_X12_holdWork h a1 t1) fun w3 h2 =>
 some (w3, h2)

noncomputable def g_X12_workAct_b177 (h : jw_H) (x0 : Nat) (x3 : Int32) : Option (Int32 × jw_H) :=
 if x3 = (104 : Int32) then (g_X12_workAct_b192  h x0 (0 : Int32))
 else ((jw_gI h 12 (some x0) 14).bind fun v2 =>
 g_X12_workAct_b192  h x0 v2)

noncomputable def g_X12_workAct_b223 (h : jw_H) (t0 : Int32) : Option (Int32 × jw_H) :=
 some (t0, h)

noncomputable def f_X12_workAct (h : jw_H) (x0 : Nat) (x1 : Int32) (x2 : Int32) : Option (Int32 × jw_H) :=
 (jw_gR h 12 (some x0) 21).bind fun v1 =>
 (jw_ai h 20 v1 x2).bind fun v2 =>
 if v2 = (97 : Int32) then ((jw_rc h 12 (some x0)).bind fun a49 =>
 jw_b2 (f_X12_dueTold h a49 (x2 + (1 : Int32))) fun w51 h50 =>
 some (w51, h50))
 else (if v2 = (105 : Int32) then ((jw_rc h 12 (some x0)).bind fun a43 =>
 jw_b2 (f_X12_rowsAt h a43 (x2 + (1 : Int32))) fun w45 h44 =>
 (jw_rc h44 12 (some x0)).bind fun a46 =>
 jw_b2 (f_X12_putTold h44 a46 (x2 + (1 : Int32)) w45) fun w48 h47 =>
 some (w48, h47))
 else (if v2 = (99 : Int32) then ((jw_gI h 12 (some x0) 27).bind fun v38 =>
 if v38 = (3 : Int32) then ((jw_gR h 12 (some x0) 74).bind fun v40 =>
 (jw_ai h 22 v40 x1).bind fun v41 =>
 if v41 = 0 then (g_X12_workAct_b69  h x0 (x2 + (1 : Int32)))
 else (g_X12_workAct_b74  h x0 (x2 + (1 : Int32)) (0 : Int32)))
 else (g_X12_workAct_b69  h x0 (x2 + (1 : Int32))))
 else (if v2 = (100 : Int32) then ((jw_pB h 12 (some x0) 70 (0 : Int32)).bind fun h37 =>
 some ((0 : Int32), h37))
 else (if v2 = (106 : Int32) then ((jw_rc h 12 (some x0)).bind fun a34 =>
 jw_b2 (f_X12_joinNext h a34) fun w36 h35 =>
 some (w36, h35))
 else (if v2 = (118 : Int32) then ((jw_rc h 12 (some x0)).bind fun a28 =>
 jw_b2 (f_X12_numberAt h a28 (x2 + (1 : Int32))) fun w30 h29 =>
 (jw_rc h29 12 (some x0)).bind fun a31 =>
 jw_b2 (f_X12_partWork h29 a31 w30) fun w33 h32 =>
 some (w33, h32))
 else (if v2 = (112 : Int32) then (g_X12_workAct_b138  h x0 v2)
 else (if v2 = (110 : Int32) then (g_X12_workAct_b138  h x0 v2)
 else (if v2 = (61 : Int32) then (g_X12_workAct_b138  h x0 v2)
 else (if v2 = (104 : Int32) then (g_X12_workAct_b177  h x0 v2)
 else (if v2 = (72 : Int32) then (g_X12_workAct_b177  h x0 v2)
 else (if v2 = (117 : Int32) then ((jw_gI h 12 (some x0) 14).bind fun v22 =>
 if v22 = 0 then (g_X12_workAct_b223  h (5 : Int32))
 else ((jw_gI h 12 (some x0) 14).bind fun v24 =>
 (jw_rc h 12 (some x0)).bind fun a25 =>
 jw_b2 (f_X12_dueRows h a25 (82 : Int32) v24) fun w27 h26 =>
 g_X12_workAct_b223  h26 w27))
 else (if v2 = (101 : Int32) then ((jw_rc h 12 (some x0)).bind fun a19 =>
 jw_b2 (f_X12_exchangeWork h a19) fun w21 h20 =>
 some (w21, h20))
 else ((jw_rc h 12 (some x0)).bind fun a16 =>
 jw_b2 (f_X12_otherWorkAct h a16 x2) fun w18 h17 =>
 some (w18, h17))))))))))))))

set_option maxRecDepth 100000 in
set_option maxHeartbeats 4000000 in
theorem l_X12_workAct_b74 {hi : jw_H} {h : jw_H} {t0 : Nat} {t1 : Int32} {t2 : Int32} {r : Int32} {h' : jw_H} (hq : g_X12_workAct_b74  h t0 t1 t2 = some (r, h')) : jw_E 8 uX12_workAct hi 74 [none, none, none, none] [.int t2, .int t1, .ref t0] h (.inl (some (.int r))) h' := by
  unfold g_X12_workAct_b74 at hq
  obtain ⟨a1, ea1, hq⟩ := Option.bind_eq_some_iff.mp hq
  obtain ⟨eoa1, eta1⟩ := jw_rc_spec ea1
  obtain ⟨w3, h2, ew3, hq⟩ := jw_b2_spec hq
  refine jw_callV (As := [.int t1, .int t2]) (S := []) (a := a1) (v := some (.int w3)) dX12_workAct_74 mt_X12_changeWork in_X12_changeWork se_X12_changeWork lk_X12_590 (c_X12_changeWork ew3) eta1 (by decide) rfl rfl (by decide) (Nat.le_of_ble_eq_true rfl) (by cases eoa1; rfl) ?_
  cases hq
  exact jw_iret (ty := .int) dX12_workAct_77 rfl rfl

set_option maxRecDepth 100000 in
set_option maxHeartbeats 4000000 in
theorem l_X12_workAct_b69 {hi : jw_H} {h : jw_H} {t0 : Nat} {t1 : Int32} {r : Int32} {h' : jw_H} (hq : g_X12_workAct_b69  h t0 t1 = some (r, h')) : jw_E 8 uX12_workAct hi 69 [none, none, none, none] [.int t1, .ref t0] h (.inl (some (.int r))) h' := by
  unfold g_X12_workAct_b69 at hq
  refine jw_iconst dX12_workAct_69 (v := (1 : Int32)) (by decide) ?_
  refine jw_goto (tgt := 74) dX12_workAct_70 (by decide) ?_
  exact l_X12_workAct_b74  hq

set_option maxRecDepth 100000 in
set_option maxHeartbeats 4000000 in
theorem l_X12_workAct_b161 {hi : jw_H} {h : jw_H} {t0 : Nat} {t1 : Int32} {t2 : Int32} {r : Int32} {h' : jw_H} (hq : g_X12_workAct_b161  h t0 t1 t2 = some (r, h')) : jw_E 8 uX12_workAct hi 161 [none, none, none, none] [.int t2, .int t1, .ref t0] h (.inl (some (.int r))) h' := by
  unfold g_X12_workAct_b161 at hq
  obtain ⟨a1, ea1, hq⟩ := Option.bind_eq_some_iff.mp hq
  obtain ⟨eoa1, eta1⟩ := jw_rc_spec ea1
  obtain ⟨w3, h2, ew3, hq⟩ := jw_b2_spec hq
  refine jw_callV (As := [.int t1, .int t2]) (S := []) (a := a1) (v := some (.int w3)) dX12_workAct_161 mt_X12_tellWork in_X12_tellWork se_X12_tellWork lk_X12_599 (c_X12_tellWork ew3) eta1 (by decide) rfl rfl (by decide) (Nat.le_of_ble_eq_true rfl) (by cases eoa1; rfl) ?_
  cases hq
  exact jw_iret (ty := .int) dX12_workAct_164 rfl rfl

set_option maxRecDepth 100000 in
set_option maxHeartbeats 4000000 in
theorem l_X12_workAct_b150 {hi : jw_H} {h : jw_H} {x3 : Int32} {t0 : Nat} {t1 : Int32} {r : Int32} {h' : jw_H} (hq : g_X12_workAct_b150  h x3 t0 t1 = some (r, h')) : jw_E 8 uX12_workAct hi 150 [none, none, none, some (.int x3)] [.int t1, .ref t0] h (.inl (some (.int r))) h' := by
  unfold g_X12_workAct_b150 at hq
  refine jw_iload_n dX12_workAct_150 rfl ?_
  refine jw_bipush dX12_workAct_151 (v := (61 : Int32)) (by decide) ?_
  rcases jw_if hq with ⟨c1, hq⟩ | ⟨c1, hq⟩
  · refine jw_icmp_eq_t (tgt := 160) dX12_workAct_153 (by decide) c1 ?_
    refine jw_iconst dX12_workAct_160 (v := (0 : Int32)) (by decide) ?_
    refine jw_forget [true, true, true, false] (L' := [none, none, none, none]) rfl ?_
    exact l_X12_workAct_b161  hq
  · refine jw_icmp_eq_f (tgt := 160) dX12_workAct_153 (by decide) c1 ?_
    refine jw_iconst dX12_workAct_156 (v := (1 : Int32)) (by decide) ?_
    refine jw_goto (tgt := 161) dX12_workAct_157 (by decide) ?_
    refine jw_forget [true, true, true, false] (L' := [none, none, none, none]) rfl ?_
    exact l_X12_workAct_b161  hq

set_option maxRecDepth 100000 in
set_option maxHeartbeats 4000000 in
theorem l_X12_workAct_b138 {hi : jw_H} {h : jw_H} {x0 : Nat} {x3 : Int32} {r : Int32} {h' : jw_H} (hq : g_X12_workAct_b138  h x0 x3 = some (r, h')) : jw_E 8 uX12_workAct hi 138 [some (.ref x0), none, none, some (.int x3)] [] h (.inl (some (.int r))) h' := by
  unfold g_X12_workAct_b138 at hq
  refine jw_aload_n dX12_workAct_138 (o := (some x0)) rfl ?_
  refine jw_iload_n dX12_workAct_139 rfl ?_
  refine jw_bipush dX12_workAct_140 (v := (112 : Int32)) (by decide) ?_
  rcases jw_if hq with ⟨c1, hq⟩ | ⟨c1, hq⟩
  · refine jw_icmp_eq_t (tgt := 149) dX12_workAct_142 (by decide) c1 ?_
    refine jw_iconst dX12_workAct_149 (v := (0 : Int32)) (by decide) ?_
    refine jw_forget [false, true, true, true] (L' := [none, none, none, some (.int x3)]) rfl ?_
    exact l_X12_workAct_b150  hq
  · refine jw_icmp_eq_f (tgt := 149) dX12_workAct_142 (by decide) c1 ?_
    refine jw_iconst dX12_workAct_145 (v := (1 : Int32)) (by decide) ?_
    refine jw_goto (tgt := 150) dX12_workAct_146 (by decide) ?_
    refine jw_forget [false, true, true, true] (L' := [none, none, none, some (.int x3)]) rfl ?_
    exact l_X12_workAct_b150  hq

set_option maxRecDepth 100000 in
set_option maxHeartbeats 4000000 in
theorem l_X12_workAct_b192 {hi : jw_H} {h : jw_H} {t0 : Nat} {t1 : Int32} {r : Int32} {h' : jw_H} (hq : g_X12_workAct_b192  h t0 t1 = some (r, h')) : jw_E 8 uX12_workAct hi 192 [none, none, none, none] [.int t1, .ref t0] h (.inl (some (.int r))) h' := by
  unfold g_X12_workAct_b192 at hq
  obtain ⟨a1, ea1, hq⟩ := Option.bind_eq_some_iff.mp hq
  obtain ⟨eoa1, eta1⟩ := jw_rc_spec ea1
  obtain ⟨w3, h2, ew3, hq⟩ := jw_b2_spec hq
  refine jw_callV (As := [.int t1]) (S := []) (a := a1) (v := some (.int w3)) dX12_workAct_192 mt_X12_holdWork in_X12_holdWork se_X12_holdWork lk_X12_603 (c_X12_holdWork ew3) eta1 (by decide) rfl rfl (by decide) (Nat.le_of_ble_eq_true rfl) (by cases eoa1; rfl) ?_
  cases hq
  exact jw_iret (ty := .int) dX12_workAct_195 rfl rfl

set_option maxRecDepth 100000 in
set_option maxHeartbeats 4000000 in
theorem l_X12_workAct_b177 {hi : jw_H} {h : jw_H} {x0 : Nat} {x3 : Int32} {r : Int32} {h' : jw_H} (hq : g_X12_workAct_b177  h x0 x3 = some (r, h')) : jw_E 8 uX12_workAct hi 177 [some (.ref x0), none, none, some (.int x3)] [] h (.inl (some (.int r))) h' := by
  unfold g_X12_workAct_b177 at hq
  refine jw_aload_n dX12_workAct_177 (o := (some x0)) rfl ?_
  refine jw_iload_n dX12_workAct_178 rfl ?_
  refine jw_bipush dX12_workAct_179 (v := (104 : Int32)) (by decide) ?_
  rcases jw_if hq with ⟨c1, hq⟩ | ⟨c1, hq⟩
  · refine jw_icmp_ne_f (tgt := 188) dX12_workAct_181 (by decide) c1 ?_
    refine jw_iconst dX12_workAct_184 (v := (0 : Int32)) (by decide) ?_
    refine jw_goto (tgt := 192) dX12_workAct_185 (by decide) ?_
    refine jw_forget [false, true, true, false] (L' := [none, none, none, none]) rfl ?_
    exact l_X12_workAct_b192  hq
  · refine jw_icmp_ne_t (tgt := 188) dX12_workAct_181 (by decide) c1 ?_
    refine jw_aload_n dX12_workAct_188 (o := (some x0)) rfl ?_
    obtain ⟨v2, ev2, hq⟩ := Option.bind_eq_some_iff.mp hq
    refine jw_getI (o := (some x0)) dX12_workAct_189 ev2 fl_X12_366 rfl ?_
    refine jw_forget [false, true, true, false] (L' := [none, none, none, none]) rfl ?_
    exact l_X12_workAct_b192  hq

set_option maxRecDepth 100000 in
set_option maxHeartbeats 4000000 in
theorem l_X12_workAct_b223 {hi : jw_H} {h : jw_H} {t0 : Int32} {r : Int32} {h' : jw_H} (hq : g_X12_workAct_b223  h t0 = some (r, h')) : jw_E 8 uX12_workAct hi 223 [none, none, none, none] [.int t0] h (.inl (some (.int r))) h' := by
  unfold g_X12_workAct_b223 at hq
  cases hq
  exact jw_iret (ty := .int) dX12_workAct_223 rfl rfl

set_option maxRecDepth 100000 in
set_option maxHeartbeats 4000000 in
theorem l_X12_workAct {hi : jw_H} {h : jw_H} {x0 : Nat} {x1 : Int32} {x2 : Int32} {r : Int32} {h' : jw_H} (hq : f_X12_workAct  h x0 x1 x2 = some (r, h')) : jw_E 8 uX12_workAct hi 0 [some (.ref x0), some (.int x1), some (.int x2), none] [] h (.inl (some (.int r))) h' := by
  unfold f_X12_workAct at hq
  refine jw_aload_n dX12_workAct_0 (o := (some x0)) rfl ?_
  obtain ⟨v1, ev1, hq⟩ := Option.bind_eq_some_iff.mp hq
  refine jw_getR (o := (some x0)) dX12_workAct_1 ev1 fl_X12_44 rfl ?_
  refine jw_iload_n dX12_workAct_4 rfl ?_
  obtain ⟨v2, ev2, hq⟩ := Option.bind_eq_some_iff.mp hq
  refine jw_iald (o := v1) dX12_workAct_5 ev2 ?_
  refine jw_istore_n (L' := [some (.ref x0), some (.int x1), some (.int x2), some (.int v2)]) dX12_workAct_6 (Nat.le_of_ble_eq_true rfl) rfl ?_
  refine jw_iload_n dX12_workAct_7 rfl ?_
  refine jw_bipush dX12_workAct_8 (v := (97 : Int32)) (by decide) ?_
  rcases jw_if hq with ⟨c3, hq⟩ | ⟨c3, hq⟩
  · refine jw_icmp_ne_f (tgt := 21) dX12_workAct_10 (by decide) c3 ?_
    refine jw_aload_n dX12_workAct_13 (o := (some x0)) rfl ?_
    refine jw_iload_n dX12_workAct_14 rfl ?_
    refine jw_iconst dX12_workAct_15 (v := (1 : Int32)) (by decide) ?_
    refine jw_iadd dX12_workAct_16 ?_
    obtain ⟨a49, ea49, hq⟩ := Option.bind_eq_some_iff.mp hq
    obtain ⟨eoa49, eta49⟩ := jw_rc_spec ea49
    obtain ⟨w51, h50, ew51, hq⟩ := jw_b2_spec hq
    refine jw_callV (As := [.int (x2 + (1 : Int32))]) (S := []) (a := a49) (v := some (.int w51)) dX12_workAct_17 mt_X12_dueTold in_X12_dueTold se_X12_dueTold lk_X12_587 (c_X12_dueTold ew51) eta49 (by decide) rfl rfl (by decide) (Nat.le_of_ble_eq_true rfl) (by cases eoa49; rfl) ?_
    cases hq
    exact jw_iret (ty := .int) dX12_workAct_20 rfl rfl
  · refine jw_icmp_ne_t (tgt := 21) dX12_workAct_10 (by decide) c3 ?_
    refine jw_iload_n dX12_workAct_21 rfl ?_
    refine jw_bipush dX12_workAct_22 (v := (105 : Int32)) (by decide) ?_
    rcases jw_if hq with ⟨c4, hq⟩ | ⟨c4, hq⟩
    · refine jw_icmp_ne_f (tgt := 42) dX12_workAct_24 (by decide) c4 ?_
      refine jw_aload_n dX12_workAct_27 (o := (some x0)) rfl ?_
      refine jw_iload_n dX12_workAct_28 rfl ?_
      refine jw_iconst dX12_workAct_29 (v := (1 : Int32)) (by decide) ?_
      refine jw_iadd dX12_workAct_30 ?_
      refine jw_aload_n dX12_workAct_31 (o := (some x0)) rfl ?_
      refine jw_iload_n dX12_workAct_32 rfl ?_
      refine jw_iconst dX12_workAct_33 (v := (1 : Int32)) (by decide) ?_
      refine jw_iadd dX12_workAct_34 ?_
      obtain ⟨a43, ea43, hq⟩ := Option.bind_eq_some_iff.mp hq
      obtain ⟨eoa43, eta43⟩ := jw_rc_spec ea43
      obtain ⟨w45, h44, ew45, hq⟩ := jw_b2_spec hq
      refine jw_callV (As := [.int (x2 + (1 : Int32))]) (S := [.int (x2 + (1 : Int32)), .ref x0]) (a := a43) (v := some (.int w45)) dX12_workAct_35 mt_X12_rowsAt in_X12_rowsAt se_X12_rowsAt lk_X12_335 (c_X12_rowsAt ew45) eta43 (by decide) rfl rfl (by decide) (Nat.le_of_ble_eq_true rfl) (by cases eoa43; rfl) ?_
      obtain ⟨a46, ea46, hq⟩ := Option.bind_eq_some_iff.mp hq
      obtain ⟨eoa46, eta46⟩ := jw_rc_spec ea46
      obtain ⟨w48, h47, ew48, hq⟩ := jw_b2_spec hq
      refine jw_callV (As := [.int (x2 + (1 : Int32)), .int w45]) (S := []) (a := a46) (v := some (.int w48)) dX12_workAct_38 mt_X12_putTold in_X12_putTold se_X12_putTold lk_X12_581 (c_X12_putTold ew48) eta46 (by decide) rfl rfl (by decide) (Nat.le_of_ble_eq_true rfl) (by cases eoa46; rfl) ?_
      cases hq
      exact jw_iret (ty := .int) dX12_workAct_41 rfl rfl
    · refine jw_icmp_ne_t (tgt := 42) dX12_workAct_24 (by decide) c4 ?_
      refine jw_iload_n dX12_workAct_42 rfl ?_
      refine jw_bipush dX12_workAct_43 (v := (99 : Int32)) (by decide) ?_
      rcases jw_if hq with ⟨c5, hq⟩ | ⟨c5, hq⟩
      · refine jw_icmp_ne_f (tgt := 78) dX12_workAct_45 (by decide) c5 ?_
        refine jw_aload_n dX12_workAct_48 (o := (some x0)) rfl ?_
        refine jw_iload_n dX12_workAct_49 rfl ?_
        refine jw_iconst dX12_workAct_50 (v := (1 : Int32)) (by decide) ?_
        refine jw_iadd dX12_workAct_51 ?_
        refine jw_aload_n dX12_workAct_52 (o := (some x0)) rfl ?_
        obtain ⟨v38, ev38, hq⟩ := Option.bind_eq_some_iff.mp hq
        refine jw_getI (o := (some x0)) dX12_workAct_53 ev38 fl_X12_203 rfl ?_
        refine jw_iconst dX12_workAct_56 (v := (3 : Int32)) (by decide) ?_
        rcases jw_if hq with ⟨c39, hq⟩ | ⟨c39, hq⟩
        · refine jw_icmp_ne_f (tgt := 69) dX12_workAct_57 (by decide) c39 ?_
          refine jw_aload_n dX12_workAct_60 (o := (some x0)) rfl ?_
          obtain ⟨v40, ev40, hq⟩ := Option.bind_eq_some_iff.mp hq
          refine jw_getR (o := (some x0)) dX12_workAct_61 ev40 fl_X12_90 rfl ?_
          refine jw_iload_n dX12_workAct_64 rfl ?_
          obtain ⟨v41, ev41, hq⟩ := Option.bind_eq_some_iff.mp hq
          refine jw_zald (o := v40) dX12_workAct_65 ev41 ?_
          rcases jw_if hq with ⟨c42, hq⟩ | ⟨c42, hq⟩
          · refine jw_if_ne_f (tgt := 73) dX12_workAct_66 (by decide) c42 ?_
            refine jw_forget [false, false, false, false] (L' := [none, none, none, none]) rfl ?_
            exact l_X12_workAct_b69  hq
          · refine jw_if_ne_t (tgt := 73) dX12_workAct_66 (by decide) c42 ?_
            refine jw_iconst dX12_workAct_73 (v := (0 : Int32)) (by decide) ?_
            refine jw_forget [false, false, false, false] (L' := [none, none, none, none]) rfl ?_
            exact l_X12_workAct_b74  hq
        · refine jw_icmp_ne_t (tgt := 69) dX12_workAct_57 (by decide) c39 ?_
          refine jw_forget [false, false, false, false] (L' := [none, none, none, none]) rfl ?_
          exact l_X12_workAct_b69  hq
      · refine jw_icmp_ne_t (tgt := 78) dX12_workAct_45 (by decide) c5 ?_
        refine jw_iload_n dX12_workAct_78 rfl ?_
        refine jw_bipush dX12_workAct_79 (v := (100 : Int32)) (by decide) ?_
        rcases jw_if hq with ⟨c6, hq⟩ | ⟨c6, hq⟩
        · refine jw_icmp_ne_f (tgt := 91) dX12_workAct_81 (by decide) c6 ?_
          refine jw_aload_n dX12_workAct_84 (o := (some x0)) rfl ?_
          refine jw_iconst dX12_workAct_85 (v := (0 : Int32)) (by decide) ?_
          obtain ⟨h37, eh37, hq⟩ := Option.bind_eq_some_iff.mp hq
          refine jw_putB (o := (some x0)) dX12_workAct_86 eh37 fl_X12_557 rfl rfl ?_
          refine jw_iconst dX12_workAct_89 (v := (0 : Int32)) (by decide) ?_
          cases hq
          exact jw_iret (ty := .int) dX12_workAct_90 rfl rfl
        · refine jw_icmp_ne_t (tgt := 91) dX12_workAct_81 (by decide) c6 ?_
          refine jw_iload_n dX12_workAct_91 rfl ?_
          refine jw_bipush dX12_workAct_92 (v := (106 : Int32)) (by decide) ?_
          rcases jw_if hq with ⟨c7, hq⟩ | ⟨c7, hq⟩
          · refine jw_icmp_ne_f (tgt := 102) dX12_workAct_94 (by decide) c7 ?_
            refine jw_aload_n dX12_workAct_97 (o := (some x0)) rfl ?_
            obtain ⟨a34, ea34, hq⟩ := Option.bind_eq_some_iff.mp hq
            obtain ⟨eoa34, eta34⟩ := jw_rc_spec ea34
            obtain ⟨w36, h35, ew36, hq⟩ := jw_b2_spec hq
            refine jw_callV (As := []) (S := []) (a := a34) (v := some (.int w36)) dX12_workAct_98 mt_X12_joinNext in_X12_joinNext se_X12_joinNext lk_X12_593 (c_X12_joinNext ew36) eta34 (by decide) rfl rfl (by decide) (Nat.le_of_ble_eq_true rfl) (by cases eoa34; rfl) ?_
            cases hq
            exact jw_iret (ty := .int) dX12_workAct_101 rfl rfl
          · refine jw_icmp_ne_t (tgt := 102) dX12_workAct_94 (by decide) c7 ?_
            refine jw_iload_n dX12_workAct_102 rfl ?_
            refine jw_bipush dX12_workAct_103 (v := (118 : Int32)) (by decide) ?_
            rcases jw_if hq with ⟨c8, hq⟩ | ⟨c8, hq⟩
            · refine jw_icmp_ne_f (tgt := 120) dX12_workAct_105 (by decide) c8 ?_
              refine jw_aload_n dX12_workAct_108 (o := (some x0)) rfl ?_
              refine jw_aload_n dX12_workAct_109 (o := (some x0)) rfl ?_
              refine jw_iload_n dX12_workAct_110 rfl ?_
              refine jw_iconst dX12_workAct_111 (v := (1 : Int32)) (by decide) ?_
              refine jw_iadd dX12_workAct_112 ?_
              obtain ⟨a28, ea28, hq⟩ := Option.bind_eq_some_iff.mp hq
              obtain ⟨eoa28, eta28⟩ := jw_rc_spec ea28
              obtain ⟨w30, h29, ew30, hq⟩ := jw_b2_spec hq
              refine jw_callV (As := [.int (x2 + (1 : Int32))]) (S := [.ref x0]) (a := a28) (v := some (.int w30)) dX12_workAct_113 mt_X12_numberAt in_X12_numberAt se_X12_numberAt lk_X12_301 (c_X12_numberAt ew30) eta28 (by decide) rfl rfl (by decide) (Nat.le_of_ble_eq_true rfl) (by cases eoa28; rfl) ?_
              obtain ⟨a31, ea31, hq⟩ := Option.bind_eq_some_iff.mp hq
              obtain ⟨eoa31, eta31⟩ := jw_rc_spec ea31
              obtain ⟨w33, h32, ew33, hq⟩ := jw_b2_spec hq
              refine jw_callV (As := [.int w30]) (S := []) (a := a31) (v := some (.int w33)) dX12_workAct_116 mt_X12_partWork in_X12_partWork se_X12_partWork lk_X12_596 (c_X12_partWork ew33) eta31 (by decide) rfl rfl (by decide) (Nat.le_of_ble_eq_true rfl) (by cases eoa31; rfl) ?_
              cases hq
              exact jw_iret (ty := .int) dX12_workAct_119 rfl rfl
            · refine jw_icmp_ne_t (tgt := 120) dX12_workAct_105 (by decide) c8 ?_
              refine jw_iload_n dX12_workAct_120 rfl ?_
              refine jw_bipush dX12_workAct_121 (v := (112 : Int32)) (by decide) ?_
              rcases jw_if hq with ⟨c9, hq⟩ | ⟨c9, hq⟩
              · refine jw_icmp_eq_t (tgt := 138) dX12_workAct_123 (by decide) c9 ?_
                refine jw_forget [true, false, false, true] (L' := [some (.ref x0), none, none, some (.int v2)]) rfl ?_
                exact l_X12_workAct_b138  hq
              · refine jw_icmp_eq_f (tgt := 138) dX12_workAct_123 (by decide) c9 ?_
                refine jw_iload_n dX12_workAct_126 rfl ?_
                refine jw_bipush dX12_workAct_127 (v := (110 : Int32)) (by decide) ?_
                rcases jw_if hq with ⟨c10, hq⟩ | ⟨c10, hq⟩
                · refine jw_icmp_eq_t (tgt := 138) dX12_workAct_129 (by decide) c10 ?_
                  refine jw_forget [true, false, false, true] (L' := [some (.ref x0), none, none, some (.int v2)]) rfl ?_
                  exact l_X12_workAct_b138  hq
                · refine jw_icmp_eq_f (tgt := 138) dX12_workAct_129 (by decide) c10 ?_
                  refine jw_iload_n dX12_workAct_132 rfl ?_
                  refine jw_bipush dX12_workAct_133 (v := (61 : Int32)) (by decide) ?_
                  rcases jw_if hq with ⟨c11, hq⟩ | ⟨c11, hq⟩
                  · refine jw_icmp_ne_f (tgt := 165) dX12_workAct_135 (by decide) c11 ?_
                    refine jw_forget [true, false, false, true] (L' := [some (.ref x0), none, none, some (.int v2)]) rfl ?_
                    exact l_X12_workAct_b138  hq
                  · refine jw_icmp_ne_t (tgt := 165) dX12_workAct_135 (by decide) c11 ?_
                    refine jw_iload_n dX12_workAct_165 rfl ?_
                    refine jw_bipush dX12_workAct_166 (v := (104 : Int32)) (by decide) ?_
                    rcases jw_if hq with ⟨c12, hq⟩ | ⟨c12, hq⟩
                    · refine jw_icmp_eq_t (tgt := 177) dX12_workAct_168 (by decide) c12 ?_
                      refine jw_forget [true, false, false, true] (L' := [some (.ref x0), none, none, some (.int v2)]) rfl ?_
                      exact l_X12_workAct_b177  hq
                    · refine jw_icmp_eq_f (tgt := 177) dX12_workAct_168 (by decide) c12 ?_
                      refine jw_iload_n dX12_workAct_171 rfl ?_
                      refine jw_bipush dX12_workAct_172 (v := (72 : Int32)) (by decide) ?_
                      rcases jw_if hq with ⟨c13, hq⟩ | ⟨c13, hq⟩
                      · refine jw_icmp_ne_f (tgt := 196) dX12_workAct_174 (by decide) c13 ?_
                        refine jw_forget [true, false, false, true] (L' := [some (.ref x0), none, none, some (.int v2)]) rfl ?_
                        exact l_X12_workAct_b177  hq
                      · refine jw_icmp_ne_t (tgt := 196) dX12_workAct_174 (by decide) c13 ?_
                        refine jw_iload_n dX12_workAct_196 rfl ?_
                        refine jw_bipush dX12_workAct_197 (v := (117 : Int32)) (by decide) ?_
                        rcases jw_if hq with ⟨c14, hq⟩ | ⟨c14, hq⟩
                        · refine jw_icmp_ne_f (tgt := 224) dX12_workAct_199 (by decide) c14 ?_
                          refine jw_aload_n dX12_workAct_202 (o := (some x0)) rfl ?_
                          obtain ⟨v22, ev22, hq⟩ := Option.bind_eq_some_iff.mp hq
                          refine jw_getI (o := (some x0)) dX12_workAct_203 ev22 fl_X12_366 rfl ?_
                          rcases jw_if hq with ⟨c23, hq⟩ | ⟨c23, hq⟩
                          · refine jw_if_ne_f (tgt := 213) dX12_workAct_206 (by decide) c23 ?_
                            refine jw_iconst dX12_workAct_209 (v := (5 : Int32)) (by decide) ?_
                            refine jw_goto (tgt := 223) dX12_workAct_210 (by decide) ?_
                            refine jw_forget [false, false, false, false] (L' := [none, none, none, none]) rfl ?_
                            exact l_X12_workAct_b223  hq
                          · refine jw_if_ne_t (tgt := 213) dX12_workAct_206 (by decide) c23 ?_
                            refine jw_aload_n dX12_workAct_213 (o := (some x0)) rfl ?_
                            refine jw_bipush dX12_workAct_214 (v := (82 : Int32)) (by decide) ?_
                            refine jw_aload_n dX12_workAct_216 (o := (some x0)) rfl ?_
                            obtain ⟨v24, ev24, hq⟩ := Option.bind_eq_some_iff.mp hq
                            refine jw_getI (o := (some x0)) dX12_workAct_217 ev24 fl_X12_366 rfl ?_
                            obtain ⟨a25, ea25, hq⟩ := Option.bind_eq_some_iff.mp hq
                            obtain ⟨eoa25, eta25⟩ := jw_rc_spec ea25
                            obtain ⟨w27, h26, ew27, hq⟩ := jw_b2_spec hq
                            refine jw_callV (As := [.int (82 : Int32), .int v24]) (S := []) (a := a25) (v := some (.int w27)) dX12_workAct_220 mt_X12_dueRows in_X12_dueRows se_X12_dueRows lk_X12_606 (c_X12_dueRows ew27) eta25 (by decide) rfl rfl (by decide) (Nat.le_of_ble_eq_true rfl) (by cases eoa25; rfl) ?_
                            refine jw_forget [false, false, false, false] (L' := [none, none, none, none]) rfl ?_
                            exact l_X12_workAct_b223  hq
                        · refine jw_icmp_ne_t (tgt := 224) dX12_workAct_199 (by decide) c14 ?_
                          refine jw_iload_n dX12_workAct_224 rfl ?_
                          refine jw_bipush dX12_workAct_225 (v := (101 : Int32)) (by decide) ?_
                          rcases jw_if hq with ⟨c15, hq⟩ | ⟨c15, hq⟩
                          · refine jw_icmp_ne_f (tgt := 235) dX12_workAct_227 (by decide) c15 ?_
                            refine jw_aload_n dX12_workAct_230 (o := (some x0)) rfl ?_
                            obtain ⟨a19, ea19, hq⟩ := Option.bind_eq_some_iff.mp hq
                            obtain ⟨eoa19, eta19⟩ := jw_rc_spec ea19
                            obtain ⟨w21, h20, ew21, hq⟩ := jw_b2_spec hq
                            refine jw_callV (As := []) (S := []) (a := a19) (v := some (.int w21)) dX12_workAct_231 mt_X12_exchangeWork in_X12_exchangeWork se_X12_exchangeWork lk_X12_609 (c_X12_exchangeWork ew21) eta19 (by decide) rfl rfl (by decide) (Nat.le_of_ble_eq_true rfl) (by cases eoa19; rfl) ?_
                            cases hq
                            exact jw_iret (ty := .int) dX12_workAct_234 rfl rfl
                          · refine jw_icmp_ne_t (tgt := 235) dX12_workAct_227 (by decide) c15 ?_
                            refine jw_aload_n dX12_workAct_235 (o := (some x0)) rfl ?_
                            refine jw_iload_n dX12_workAct_236 rfl ?_
                            obtain ⟨a16, ea16, hq⟩ := Option.bind_eq_some_iff.mp hq
                            obtain ⟨eoa16, eta16⟩ := jw_rc_spec ea16
                            obtain ⟨w18, h17, ew18, hq⟩ := jw_b2_spec hq
                            refine jw_callV (As := [.int x2]) (S := []) (a := a16) (v := some (.int w18)) dX12_workAct_237 mt_X12_otherWorkAct in_X12_otherWorkAct se_X12_otherWorkAct lk_X12_612 (c_X12_otherWorkAct ew18) eta16 (by decide) rfl rfl (by decide) (Nat.le_of_ble_eq_true rfl) (by cases eoa16; rfl) ?_
                            cases hq
                            exact jw_iret (ty := .int) dX12_workAct_240 rfl rfl

theorem c_X12_workAct {h : jw_H} {x0 : Nat} {x1 : Int32} {x2 : Int32} {r : Int32} {h' : jw_H} (hq : f_X12_workAct h x0 x1 x2 = some (r, h')) : jw_Con (Cond.code yX12_workAct cX12_workAct 4 (some .int)) yX12_workAct 8 [.ref x0, .int x1, .int x2] h (.inl (some (.int r))) h' :=
  jw_con false (plainFor_of_name (by decide +kernel)) (fun z => nomatch z) (by simp [jw_ent, jw_sl0_nil, jw_sl0_int, jw_sl0_long, jw_sl0_ref, jw_sl0_rf, jw_sl0_scr, List.replicate]) (by simp [jw_sl0_nil, jw_sl0_int, jw_sl0_long, jw_sl0_ref, jw_sl0_rf, jw_sl0_scr]) (l_X12_workAct hq)


/-! X12_comesTo -/
noncomputable def g_X12_comesTo_b41 (h : jw_H) (t0 : Int32) : Option (Int32 × jw_H) :=
 some (t0, h)

noncomputable def f_X12_comesTo (h : jw_H) (x0 : Nat) (x1 : Int32) : Option (Int32 × jw_H) :=
 (jw_gI h 12 (some x0) 73).bind fun v1 =>
 if v1 = (400 : Int32) then (some ((7 : Int32), h))
 else ((jw_gI h 12 (some x0) 73).bind fun v3 =>
 (jw_pI h 12 (some x0) 73 (v3 + (1 : Int32))).bind fun h4 =>
 (jw_rc h4 12 (some x0)).bind fun a5 =>
 jw_b2 (f_X12_readWhere h4 a5 x1) fun w7 h6 =>
 (jw_rc h6 12 (some x0)).bind fun a8 =>
 jw_b2 (f_X12_isBarred h6 a8) fun w10 h9 =>
 if w10 = 0 then (g_X12_comesTo_b41  h9 (0 : Int32))
 else (g_X12_comesTo_b41  h9 (8 : Int32)))

set_option maxRecDepth 100000 in
set_option maxHeartbeats 4000000 in
theorem l_X12_comesTo_b41 {hi : jw_H} {h : jw_H} {t0 : Int32} {r : Int32} {h' : jw_H} (hq : g_X12_comesTo_b41  h t0 = some (r, h')) : jw_E 11 uX12_comesTo hi 41 [none, none] [.int t0] h (.inl (some (.int r))) h' := by
  unfold g_X12_comesTo_b41 at hq
  cases hq
  exact jw_iret (ty := .int) dX12_comesTo_41 rfl rfl

set_option maxRecDepth 100000 in
set_option maxHeartbeats 4000000 in
theorem l_X12_comesTo {hi : jw_H} {h : jw_H} {x0 : Nat} {x1 : Int32} {r : Int32} {h' : jw_H} (hq : f_X12_comesTo  h x0 x1 = some (r, h')) : jw_E 11 uX12_comesTo hi 0 [some (.ref x0), some (.int x1)] [] h (.inl (some (.int r))) h' := by
  unfold f_X12_comesTo at hq
  refine jw_aload_n dX12_comesTo_0 (o := (some x0)) rfl ?_
  obtain ⟨v1, ev1, hq⟩ := Option.bind_eq_some_iff.mp hq
  refine jw_getI (o := (some x0)) dX12_comesTo_1 ev1 fl_X12_618 rfl ?_
  refine jw_sipush dX12_comesTo_4 (v := (400 : Int32)) (by decide) ?_
  rcases jw_if hq with ⟨c2, hq⟩ | ⟨c2, hq⟩
  · refine jw_icmp_ne_f (tgt := 13) dX12_comesTo_7 (by decide) c2 ?_
    refine jw_bipush dX12_comesTo_10 (v := (7 : Int32)) (by decide) ?_
    cases hq
    exact jw_iret (ty := .int) dX12_comesTo_12 rfl rfl
  · refine jw_icmp_ne_t (tgt := 13) dX12_comesTo_7 (by decide) c2 ?_
    refine jw_aload_n dX12_comesTo_13 (o := (some x0)) rfl ?_
    refine jw_dup dX12_comesTo_14 rfl ?_
    obtain ⟨v3, ev3, hq⟩ := Option.bind_eq_some_iff.mp hq
    refine jw_getI (o := (some x0)) dX12_comesTo_15 ev3 fl_X12_618 rfl ?_
    refine jw_iconst dX12_comesTo_18 (v := (1 : Int32)) (by decide) ?_
    refine jw_iadd dX12_comesTo_19 ?_
    obtain ⟨h4, eh4, hq⟩ := Option.bind_eq_some_iff.mp hq
    refine jw_putI (o := (some x0)) dX12_comesTo_20 eh4 fl_X12_618 rfl rfl ?_
    refine jw_aload_n dX12_comesTo_23 (o := (some x0)) rfl ?_
    refine jw_iload_n dX12_comesTo_24 rfl ?_
    obtain ⟨a5, ea5, hq⟩ := Option.bind_eq_some_iff.mp hq
    obtain ⟨eoa5, eta5⟩ := jw_rc_spec ea5
    obtain ⟨w7, h6, ew7, hq⟩ := jw_b2_spec hq
    refine jw_callV (As := [.int x1]) (S := []) (a := a5) (v := none) dX12_comesTo_25 mt_X12_readWhere in_X12_readWhere se_X12_readWhere lk_X12_458 (c_X12_readWhere ew7) eta5 (by decide) rfl rfl (by decide) (Nat.le_of_ble_eq_true rfl) (by cases eoa5; rfl) ?_
    refine jw_aload_n dX12_comesTo_28 (o := (some x0)) rfl ?_
    obtain ⟨a8, ea8, hq⟩ := Option.bind_eq_some_iff.mp hq
    obtain ⟨eoa8, eta8⟩ := jw_rc_spec ea8
    obtain ⟨w10, h9, ew10, hq⟩ := jw_b2_spec hq
    refine jw_callV (As := []) (S := []) (a := a8) (v := some (.int w10)) dX12_comesTo_29 mt_X12_isBarred in_X12_isBarred se_X12_isBarred lk_X12_621 (c_X12_isBarred ew10) eta8 (by decide) rfl rfl (by decide) (Nat.le_of_ble_eq_true rfl) (by cases eoa8; rfl) ?_
    rcases jw_if hq with ⟨c11, hq⟩ | ⟨c11, hq⟩
    · refine jw_if_eq_t (tgt := 40) dX12_comesTo_32 (by decide) c11 ?_
      refine jw_iconst dX12_comesTo_40 (v := (0 : Int32)) (by decide) ?_
      refine jw_forget [false, false] (L' := [none, none]) rfl ?_
      exact l_X12_comesTo_b41  hq
    · refine jw_if_eq_f (tgt := 40) dX12_comesTo_32 (by decide) c11 ?_
      refine jw_bipush dX12_comesTo_35 (v := (8 : Int32)) (by decide) ?_
      refine jw_goto (tgt := 41) dX12_comesTo_37 (by decide) ?_
      refine jw_forget [false, false] (L' := [none, none]) rfl ?_
      exact l_X12_comesTo_b41  hq

theorem c_X12_comesTo {h : jw_H} {x0 : Nat} {x1 : Int32} {r : Int32} {h' : jw_H} (hq : f_X12_comesTo h x0 x1 = some (r, h')) : jw_Con (Cond.code yX12_comesTo cX12_comesTo 2 (some .int)) yX12_comesTo 11 [.ref x0, .int x1] h (.inl (some (.int r))) h' :=
  jw_con false (plainFor_of_name (by decide +kernel)) (fun z => nomatch z) (by simp [jw_ent, jw_sl0_nil, jw_sl0_int, jw_sl0_long, jw_sl0_ref, jw_sl0_rf, jw_sl0_scr, List.replicate]) (by simp [jw_sl0_nil, jw_sl0_int, jw_sl0_long, jw_sl0_ref, jw_sl0_rf, jw_sl0_scr]) (l_X12_comesTo hq)


/-! X12_workInner -/
noncomputable def g_X12_workInner_b35 (h : jw_H) (t0 : Int32) : Option (Int32 × jw_H) :=
 some (t0, h)

noncomputable def f_X12_workInner (h : jw_H) (x0 : Nat) (x1 : Int32) : Option (Int32 × jw_H) :=
 (jw_rc h 12 (some x0)).bind fun a1 =>
 jw_b2 (f_X12_comesTo h a1 x1) fun w3 h2 =>
 if w3 ≤ 0 then ((jw_gI h2 12 (some x0) 30).bind fun v5 =>
 (jw_rc h2 12 (some x0)).bind fun a6 =>
 jw_b2 (f_X12_whereHolds h2 a6 x1) fun w8 h7 =>
 if w8 = 0 then (g_X12_workInner_b35  h7 (0 : Int32))
 else ((jw_rc h7 12 (some x0)).bind fun a10 =>
 jw_b2 (f_X12_workAct h7 a10 x1 v5) fun w12 h11 =>
 g_X12_workInner_b35  h11 w12))
 else (some (w3, h2))

set_option maxRecDepth 100000 in
set_option maxHeartbeats 4000000 in
theorem l_X12_workInner_b35 {hi : jw_H} {h : jw_H} {t0 : Int32} {r : Int32} {h' : jw_H} (hq : g_X12_workInner_b35  h t0 = some (r, h')) : jw_E 12 uX12_workInner hi 35 [none, none, none, none] [.int t0] h (.inl (some (.int r))) h' := by
  unfold g_X12_workInner_b35 at hq
  cases hq
  exact jw_iret (ty := .int) dX12_workInner_35 rfl rfl

set_option maxRecDepth 100000 in
set_option maxHeartbeats 4000000 in
theorem l_X12_workInner {hi : jw_H} {h : jw_H} {x0 : Nat} {x1 : Int32} {r : Int32} {h' : jw_H} (hq : f_X12_workInner  h x0 x1 = some (r, h')) : jw_E 12 uX12_workInner hi 0 [some (.ref x0), some (.int x1), none, none] [] h (.inl (some (.int r))) h' := by
  unfold f_X12_workInner at hq
  refine jw_aload_n dX12_workInner_0 (o := (some x0)) rfl ?_
  refine jw_iload_n dX12_workInner_1 rfl ?_
  obtain ⟨a1, ea1, hq⟩ := Option.bind_eq_some_iff.mp hq
  obtain ⟨eoa1, eta1⟩ := jw_rc_spec ea1
  obtain ⟨w3, h2, ew3, hq⟩ := jw_b2_spec hq
  refine jw_callV (As := [.int x1]) (S := []) (a := a1) (v := some (.int w3)) dX12_workInner_2 mt_X12_comesTo in_X12_comesTo se_X12_comesTo lk_X12_625 (c_X12_comesTo ew3) eta1 (by decide) rfl rfl (by decide) (Nat.le_of_ble_eq_true rfl) (by cases eoa1; rfl) ?_
  refine jw_istore_n (L' := [some (.ref x0), some (.int x1), some (.int w3), none]) dX12_workInner_5 (Nat.le_of_ble_eq_true rfl) rfl ?_
  refine jw_iload_n dX12_workInner_6 rfl ?_
  rcases jw_if hq with ⟨c4, hq⟩ | ⟨c4, hq⟩
  · refine jw_if_le_t (tgt := 12) dX12_workInner_7 (by decide) c4 ?_
    refine jw_aload_n dX12_workInner_12 (o := (some x0)) rfl ?_
    obtain ⟨v5, ev5, hq⟩ := Option.bind_eq_some_iff.mp hq
    refine jw_getI (o := (some x0)) dX12_workInner_13 ev5 fl_X12_218 rfl ?_
    refine jw_istore_n (L' := [some (.ref x0), some (.int x1), some (.int w3), some (.int v5)]) dX12_workInner_16 (Nat.le_of_ble_eq_true rfl) rfl ?_
    refine jw_aload_n dX12_workInner_17 (o := (some x0)) rfl ?_
    refine jw_iload_n dX12_workInner_18 rfl ?_
    obtain ⟨a6, ea6, hq⟩ := Option.bind_eq_some_iff.mp hq
    obtain ⟨eoa6, eta6⟩ := jw_rc_spec ea6
    obtain ⟨w8, h7, ew8, hq⟩ := jw_b2_spec hq
    refine jw_callV (As := [.int x1]) (S := []) (a := a6) (v := some (.int w8)) dX12_workInner_19 mt_X12_whereHolds in_X12_whereHolds se_X12_whereHolds lk_X12_628 (c_X12_whereHolds ew8) eta6 (by decide) rfl rfl (by decide) (Nat.le_of_ble_eq_true rfl) (by cases eoa6; rfl) ?_
    rcases jw_if hq with ⟨c9, hq⟩ | ⟨c9, hq⟩
    · refine jw_if_eq_t (tgt := 34) dX12_workInner_22 (by decide) c9 ?_
      refine jw_iconst dX12_workInner_34 (v := (0 : Int32)) (by decide) ?_
      refine jw_forget [false, false, false, false] (L' := [none, none, none, none]) rfl ?_
      exact l_X12_workInner_b35  hq
    · refine jw_if_eq_f (tgt := 34) dX12_workInner_22 (by decide) c9 ?_
      refine jw_aload_n dX12_workInner_25 (o := (some x0)) rfl ?_
      refine jw_iload_n dX12_workInner_26 rfl ?_
      refine jw_iload_n dX12_workInner_27 rfl ?_
      obtain ⟨a10, ea10, hq⟩ := Option.bind_eq_some_iff.mp hq
      obtain ⟨eoa10, eta10⟩ := jw_rc_spec ea10
      obtain ⟨w12, h11, ew12, hq⟩ := jw_b2_spec hq
      refine jw_callV (As := [.int x1, .int v5]) (S := []) (a := a10) (v := some (.int w12)) dX12_workInner_28 mt_X12_workAct in_X12_workAct se_X12_workAct lk_X12_631 (c_X12_workAct ew12) eta10 (by decide) rfl rfl (by decide) (Nat.le_of_ble_eq_true rfl) (by cases eoa10; rfl) ?_
      refine jw_goto (tgt := 35) dX12_workInner_31 (by decide) ?_
      refine jw_forget [false, false, false, false] (L' := [none, none, none, none]) rfl ?_
      exact l_X12_workInner_b35  hq
  · refine jw_if_le_f (tgt := 12) dX12_workInner_7 (by decide) c4 ?_
    refine jw_iload_n dX12_workInner_10 rfl ?_
    cases hq
    exact jw_iret (ty := .int) dX12_workInner_11 rfl rfl

theorem c_X12_workInner {h : jw_H} {x0 : Nat} {x1 : Int32} {r : Int32} {h' : jw_H} (hq : f_X12_workInner h x0 x1 = some (r, h')) : jw_Con (Cond.code yX12_workInner cX12_workInner 4 (some .int)) yX12_workInner 12 [.ref x0, .int x1] h (.inl (some (.int r))) h' :=
  jw_con false (plainFor_of_name (by decide +kernel)) (fun z => nomatch z) (by simp [jw_ent, jw_sl0_nil, jw_sl0_int, jw_sl0_long, jw_sl0_ref, jw_sl0_rf, jw_sl0_scr, List.replicate]) (by simp [jw_sl0_nil, jw_sl0_int, jw_sl0_long, jw_sl0_ref, jw_sl0_rf, jw_sl0_scr]) (l_X12_workInner hq)


/-! X12_workParts -/
noncomputable def g_X12_workParts_b72 (k23 : jw_H → Nat → Int32 → Int32 → Option (Int32 × jw_H)) (h : jw_H) (x0 : Nat) (x2 : Int32) (t0 : Int32) : Option (Int32 × jw_H) :=
 k23 h x0 (x2 + (1 : Int32)) t0

noncomputable def g_X12_workParts_b23 (k23 : jw_H → Nat → Int32 → Int32 → Option (Int32 × jw_H)) (h : jw_H) (x0 : Nat) (x2 : Int32) (x3 : Int32) : Option (Int32 × jw_H) :=
 if x3 = 0 then (some ((0 : Int32), h))
 else ((jw_gI h 12 (some x0) 70).bind fun v2 =>
 if v2 = 0 then (some ((0 : Int32), h))
 else ((jw_rc h 12 (some x0)).bind fun a4 =>
 jw_b2 (f_X12_workInner h a4 x2) fun w6 h5 =>
 if w6 ≤ 0 then ((jw_rc h5 12 (some x0)).bind fun a8 =>
 jw_b2 (f_X12_endOf h5 a8 x2 (1 : Int32)) fun w10 h9 =>
 (jw_gR h9 12 (some x0) 21).bind fun v11 =>
 (jw_ai h9 20 v11 w10).bind fun v12 =>
 if v12 = (59 : Int32) then (g_X12_workParts_b72 k23 h9 x0 w10 (1 : Int32))
 else (g_X12_workParts_b72 k23 h9 x0 w10 (0 : Int32)))
 else (some (w6, h5))))

noncomputable def f_X12_workParts_b23 (n : Nat) : jw_H → Nat → Int32 → Int32 → Option (Int32 × jw_H) :=
 Nat.rec (fun _ _ _ _ => none) (fun _ k23 => g_X12_workParts_b23 k23) n

noncomputable def f_X12_workParts (h : jw_H) (x0 : Nat) (x1 : Int32) : Option (Int32 × jw_H) :=
 (jw_gR h 12 (some x0) 21).bind fun v1 =>
 (jw_ai h 20 v1 x1).bind fun v2 =>
 if v2 = (123 : Int32) then (f_X12_workParts_b23  jw_FU h x0 (x1 + (1 : Int32)) (1 : Int32))
 else ((jw_rc h 12 (some x0)).bind fun a4 =>
 jw_b2 (f_X12_workInner h a4 x1) fun w6 h5 =>
 some (w6, h5))

set_option maxRecDepth 100000 in
set_option maxHeartbeats 4000000 in
theorem l_X12_workParts_b72 {hi : jw_H} {k23 : jw_H → Nat → Int32 → Int32 → Option (Int32 × jw_H)} (hk23 : ∀ (h : jw_H) (x0 : Nat) (x2 : Int32) (x3 : Int32) (r : Int32) (h' : jw_H), k23 h x0 x2 x3 = some (r, h') → jw_E 14 uX12_workParts hi 23 [some (.ref x0), none, some (.int x2), some (.int x3), none] [] h (.inl (some (.int r))) h') {h : jw_H} {x0 : Nat} {x2 : Int32} {t0 : Int32} {r : Int32} {h' : jw_H} (hq : g_X12_workParts_b72 k23 h x0 x2 t0 = some (r, h')) : jw_E 14 uX12_workParts hi 72 [some (.ref x0), none, some (.int x2), none, none] [.int t0] h (.inl (some (.int r))) h' := by
  unfold g_X12_workParts_b72 at hq
  refine jw_istore_n (L' := [some (.ref x0), none, some (.int x2), some (.int t0), none]) dX12_workParts_72 (Nat.le_of_ble_eq_true rfl) rfl ?_
  refine jw_iinc (L' := [some (.ref x0), none, some (.int (x2 + (1 : Int32))), some (.int t0), none]) dX12_workParts_73 rfl (v := (1 : Int32)) (by decide) (Nat.le_of_ble_eq_true rfl) rfl ?_
  refine jw_goto (tgt := 23) dX12_workParts_76 (by decide) ?_
  exact hk23 _ _ _ _ _ _ hq

set_option maxRecDepth 100000 in
set_option maxHeartbeats 4000000 in
theorem l_X12_workParts_b23g {hi : jw_H} {k23 : jw_H → Nat → Int32 → Int32 → Option (Int32 × jw_H)} (hk23 : ∀ (h : jw_H) (x0 : Nat) (x2 : Int32) (x3 : Int32) (r : Int32) (h' : jw_H), k23 h x0 x2 x3 = some (r, h') → jw_E 14 uX12_workParts hi 23 [some (.ref x0), none, some (.int x2), some (.int x3), none] [] h (.inl (some (.int r))) h') {h : jw_H} {x0 : Nat} {x2 : Int32} {x3 : Int32} {r : Int32} {h' : jw_H} (hq : g_X12_workParts_b23 k23 h x0 x2 x3 = some (r, h')) : jw_E 14 uX12_workParts hi 23 [some (.ref x0), none, some (.int x2), some (.int x3), none] [] h (.inl (some (.int r))) h' := by
  unfold g_X12_workParts_b23 at hq
  refine jw_iload_n dX12_workParts_23 rfl ?_
  rcases jw_if hq with ⟨c1, hq⟩ | ⟨c1, hq⟩
  · refine jw_if_eq_t (tgt := 79) dX12_workParts_24 (by decide) c1 ?_
    refine jw_iconst dX12_workParts_79 (v := (0 : Int32)) (by decide) ?_
    cases hq
    exact jw_iret (ty := .int) dX12_workParts_80 rfl rfl
  · refine jw_if_eq_f (tgt := 79) dX12_workParts_24 (by decide) c1 ?_
    refine jw_aload_n dX12_workParts_27 (o := (some x0)) rfl ?_
    obtain ⟨v2, ev2, hq⟩ := Option.bind_eq_some_iff.mp hq
    refine jw_getI (o := (some x0)) dX12_workParts_28 ev2 fl_X12_557 rfl ?_
    rcases jw_if hq with ⟨c3, hq⟩ | ⟨c3, hq⟩
    · refine jw_if_eq_t (tgt := 79) dX12_workParts_31 (by decide) c3 ?_
      refine jw_iconst dX12_workParts_79 (v := (0 : Int32)) (by decide) ?_
      cases hq
      exact jw_iret (ty := .int) dX12_workParts_80 rfl rfl
    · refine jw_if_eq_f (tgt := 79) dX12_workParts_31 (by decide) c3 ?_
      refine jw_aload_n dX12_workParts_34 (o := (some x0)) rfl ?_
      refine jw_iload_n dX12_workParts_35 rfl ?_
      obtain ⟨a4, ea4, hq⟩ := Option.bind_eq_some_iff.mp hq
      obtain ⟨eoa4, eta4⟩ := jw_rc_spec ea4
      obtain ⟨w6, h5, ew6, hq⟩ := jw_b2_spec hq
      refine jw_callV (As := [.int x2]) (S := []) (a := a4) (v := some (.int w6)) dX12_workParts_36 mt_X12_workInner in_X12_workInner se_X12_workInner lk_X12_634 (c_X12_workInner ew6) eta4 (by decide) rfl rfl (by decide) (Nat.le_of_ble_eq_true rfl) (by cases eoa4; rfl) ?_
      refine jw_istore (L' := [some (.ref x0), none, some (.int x2), some (.int x3), some (.int w6)]) dX12_workParts_39 (Nat.le_of_ble_eq_true rfl) rfl ?_
      refine jw_iload dX12_workParts_41 rfl ?_
      rcases jw_if hq with ⟨c7, hq⟩ | ⟨c7, hq⟩
      · refine jw_if_le_t (tgt := 49) dX12_workParts_43 (by decide) c7 ?_
        refine jw_aload_n dX12_workParts_49 (o := (some x0)) rfl ?_
        refine jw_iload_n dX12_workParts_50 rfl ?_
        refine jw_iconst dX12_workParts_51 (v := (1 : Int32)) (by decide) ?_
        obtain ⟨a8, ea8, hq⟩ := Option.bind_eq_some_iff.mp hq
        obtain ⟨eoa8, eta8⟩ := jw_rc_spec ea8
        obtain ⟨w10, h9, ew10, hq⟩ := jw_b2_spec hq
        refine jw_callV (As := [.int x2, .int (1 : Int32)]) (S := []) (a := a8) (v := some (.int w10)) dX12_workParts_52 mt_X12_endOf in_X12_endOf se_X12_endOf lk_X12_470 (c_X12_endOf ew10) eta8 (by decide) rfl rfl (by decide) (Nat.le_of_ble_eq_true rfl) (by cases eoa8; rfl) ?_
        refine jw_istore_n (L' := [some (.ref x0), none, some (.int w10), some (.int x3), some (.int w6)]) dX12_workParts_55 (Nat.le_of_ble_eq_true rfl) rfl ?_
        refine jw_aload_n dX12_workParts_56 (o := (some x0)) rfl ?_
        obtain ⟨v11, ev11, hq⟩ := Option.bind_eq_some_iff.mp hq
        refine jw_getR (o := (some x0)) dX12_workParts_57 ev11 fl_X12_44 rfl ?_
        refine jw_iload_n dX12_workParts_60 rfl ?_
        obtain ⟨v12, ev12, hq⟩ := Option.bind_eq_some_iff.mp hq
        refine jw_iald (o := v11) dX12_workParts_61 ev12 ?_
        refine jw_bipush dX12_workParts_62 (v := (59 : Int32)) (by decide) ?_
        rcases jw_if hq with ⟨c13, hq⟩ | ⟨c13, hq⟩
        · refine jw_icmp_ne_f (tgt := 71) dX12_workParts_64 (by decide) c13 ?_
          refine jw_iconst dX12_workParts_67 (v := (1 : Int32)) (by decide) ?_
          refine jw_goto (tgt := 72) dX12_workParts_68 (by decide) ?_
          refine jw_forget [true, true, true, false, false] (L' := [some (.ref x0), none, some (.int w10), none, none]) rfl ?_
          exact l_X12_workParts_b72 hk23 hq
        · refine jw_icmp_ne_t (tgt := 71) dX12_workParts_64 (by decide) c13 ?_
          refine jw_iconst dX12_workParts_71 (v := (0 : Int32)) (by decide) ?_
          refine jw_forget [true, true, true, false, false] (L' := [some (.ref x0), none, some (.int w10), none, none]) rfl ?_
          exact l_X12_workParts_b72 hk23 hq
      · refine jw_if_le_f (tgt := 49) dX12_workParts_43 (by decide) c7 ?_
        refine jw_iload dX12_workParts_46 rfl ?_
        cases hq
        exact jw_iret (ty := .int) dX12_workParts_48 rfl rfl

theorem l_X12_workParts_b23 {hi : jw_H} : ∀ (n : Nat) (h : jw_H) (x0 : Nat) (x2 : Int32) (x3 : Int32) (r : Int32) (h' : jw_H), f_X12_workParts_b23  n h x0 x2 x3 = some (r, h') → jw_E 14 uX12_workParts hi 23 [some (.ref x0), none, some (.int x2), some (.int x3), none] [] h (.inl (some (.int r))) h' := by
  intro n
  induction n with
  | zero => intro h x0 x2 x3 r h' hq; exact nomatch hq
  | succ n ih => intro h x0 x2 x3 r h' hq; exact l_X12_workParts_b23g ih hq

set_option maxRecDepth 100000 in
set_option maxHeartbeats 4000000 in
theorem l_X12_workParts {hi : jw_H} {h : jw_H} {x0 : Nat} {x1 : Int32} {r : Int32} {h' : jw_H} (hq : f_X12_workParts  h x0 x1 = some (r, h')) : jw_E 14 uX12_workParts hi 0 [some (.ref x0), some (.int x1), none, none, none] [] h (.inl (some (.int r))) h' := by
  unfold f_X12_workParts at hq
  refine jw_aload_n dX12_workParts_0 (o := (some x0)) rfl ?_
  obtain ⟨v1, ev1, hq⟩ := Option.bind_eq_some_iff.mp hq
  refine jw_getR (o := (some x0)) dX12_workParts_1 ev1 fl_X12_44 rfl ?_
  refine jw_iload_n dX12_workParts_4 rfl ?_
  obtain ⟨v2, ev2, hq⟩ := Option.bind_eq_some_iff.mp hq
  refine jw_iald (o := v1) dX12_workParts_5 ev2 ?_
  refine jw_bipush dX12_workParts_6 (v := (123 : Int32)) (by decide) ?_
  rcases jw_if hq with ⟨c3, hq⟩ | ⟨c3, hq⟩
  · refine jw_icmp_eq_t (tgt := 17) dX12_workParts_8 (by decide) c3 ?_
    refine jw_iload_n dX12_workParts_17 rfl ?_
    refine jw_iconst dX12_workParts_18 (v := (1 : Int32)) (by decide) ?_
    refine jw_iadd dX12_workParts_19 ?_
    refine jw_istore_n (L' := [some (.ref x0), some (.int x1), some (.int (x1 + (1 : Int32))), none, none]) dX12_workParts_20 (Nat.le_of_ble_eq_true rfl) rfl ?_
    refine jw_iconst dX12_workParts_21 (v := (1 : Int32)) (by decide) ?_
    refine jw_istore_n (L' := [some (.ref x0), some (.int x1), some (.int (x1 + (1 : Int32))), some (.int (1 : Int32)), none]) dX12_workParts_22 (Nat.le_of_ble_eq_true rfl) rfl ?_
    refine jw_forget [true, false, true, true, true] (L' := [some (.ref x0), none, some (.int (x1 + (1 : Int32))), some (.int (1 : Int32)), none]) rfl ?_
    exact l_X12_workParts_b23  jw_FU _ _ _ _ _ _ hq
  · refine jw_icmp_eq_f (tgt := 17) dX12_workParts_8 (by decide) c3 ?_
    refine jw_aload_n dX12_workParts_11 (o := (some x0)) rfl ?_
    refine jw_iload_n dX12_workParts_12 rfl ?_
    obtain ⟨a4, ea4, hq⟩ := Option.bind_eq_some_iff.mp hq
    obtain ⟨eoa4, eta4⟩ := jw_rc_spec ea4
    obtain ⟨w6, h5, ew6, hq⟩ := jw_b2_spec hq
    refine jw_callV (As := [.int x1]) (S := []) (a := a4) (v := some (.int w6)) dX12_workParts_13 mt_X12_workInner in_X12_workInner se_X12_workInner lk_X12_634 (c_X12_workInner ew6) eta4 (by decide) rfl rfl (by decide) (Nat.le_of_ble_eq_true rfl) (by cases eoa4; rfl) ?_
    cases hq
    exact jw_iret (ty := .int) dX12_workParts_16 rfl rfl

theorem c_X12_workParts {h : jw_H} {x0 : Nat} {x1 : Int32} {r : Int32} {h' : jw_H} (hq : f_X12_workParts h x0 x1 = some (r, h')) : jw_Con (Cond.code yX12_workParts cX12_workParts 5 (some .int)) yX12_workParts 14 [.ref x0, .int x1] h (.inl (some (.int r))) h' :=
  jw_con false (plainFor_of_name (by decide +kernel)) (fun z => nomatch z) (by simp [jw_ent, jw_sl0_nil, jw_sl0_int, jw_sl0_long, jw_sl0_ref, jw_sl0_rf, jw_sl0_scr, List.replicate]) (by simp [jw_sl0_nil, jw_sl0_int, jw_sl0_long, jw_sl0_ref, jw_sl0_rf, jw_sl0_scr]) (l_X12_workParts hq)


/-! X12_workEach -/
noncomputable def g_X12_workEach_b66 (h : jw_H) (t0 : Int32) : Option (Int32 × jw_H) :=
 some (t0, h)

noncomputable def g_X12_workEach_b54 (h : jw_H) (x0 : Nat) (x3 : Int32) (t0 : Int32) (t1 : Int32) : Option (Int32 × jw_H) :=
 if t0 = t1 then ((jw_rc h 12 (some x0)).bind fun a2 =>
 jw_b2 (f_X12_workParts h a2 x3) fun w4 h3 =>
 g_X12_workEach_b66  h3 w4)
 else (g_X12_workEach_b66  h (0 : Int32))

noncomputable def f_X12_workEach (h : jw_H) (x0 : Nat) (x1 : Int32) : Option (Int32 × jw_H) :=
 (jw_gR h 12 (some x0) 21).bind fun v1 =>
 (jw_ai h 20 v1 x1).bind fun v2 =>
 if v2 = (123 : Int32) then ((jw_rc h 12 (some x0)).bind fun a12 =>
 jw_b2 (f_X12_workParts h a12 x1) fun w14 h13 =>
 some (w14, h13))
 else ((jw_rc h 12 (some x0)).bind fun a4 =>
 jw_b2 (f_X12_compile h a4 (x1 + (2 : Int32)) (47 : Int32)) fun w6 h5 =>
 (jw_gI h5 12 (some x0) 37).bind fun v7 =>
 (jw_rc h5 12 (some x0)).bind fun a8 =>
 jw_b2 (f_X12_finds h5 a8 (429 : Int32) (0 : Int32)) fun w10 h9 =>
 if v2 = (103 : Int32) then (g_X12_workEach_b54  h9 x0 (v7 + (1 : Int32)) w10 (1 : Int32))
 else (g_X12_workEach_b54  h9 x0 (v7 + (1 : Int32)) w10 (0 : Int32)))

set_option maxRecDepth 100000 in
set_option maxHeartbeats 4000000 in
theorem l_X12_workEach_b66 {hi : jw_H} {h : jw_H} {t0 : Int32} {r : Int32} {h' : jw_H} (hq : g_X12_workEach_b66  h t0 = some (r, h')) : jw_E 15 uX12_workEach hi 66 [none, none, none, none] [.int t0] h (.inl (some (.int r))) h' := by
  unfold g_X12_workEach_b66 at hq
  cases hq
  exact jw_iret (ty := .int) dX12_workEach_66 rfl rfl

set_option maxRecDepth 100000 in
set_option maxHeartbeats 4000000 in
theorem l_X12_workEach_b54 {hi : jw_H} {h : jw_H} {x0 : Nat} {x3 : Int32} {t0 : Int32} {t1 : Int32} {r : Int32} {h' : jw_H} (hq : g_X12_workEach_b54  h x0 x3 t0 t1 = some (r, h')) : jw_E 15 uX12_workEach hi 54 [some (.ref x0), none, none, some (.int x3)] [.int t1, .int t0] h (.inl (some (.int r))) h' := by
  unfold g_X12_workEach_b54 at hq
  rcases jw_if hq with ⟨c1, hq⟩ | ⟨c1, hq⟩
  · refine jw_icmp_ne_f (tgt := 65) dX12_workEach_54 (by decide) c1 ?_
    refine jw_aload_n dX12_workEach_57 (o := (some x0)) rfl ?_
    refine jw_iload_n dX12_workEach_58 rfl ?_
    obtain ⟨a2, ea2, hq⟩ := Option.bind_eq_some_iff.mp hq
    obtain ⟨eoa2, eta2⟩ := jw_rc_spec ea2
    obtain ⟨w4, h3, ew4, hq⟩ := jw_b2_spec hq
    refine jw_callV (As := [.int x3]) (S := []) (a := a2) (v := some (.int w4)) dX12_workEach_59 mt_X12_workParts in_X12_workParts se_X12_workParts lk_X12_637 (c_X12_workParts ew4) eta2 (by decide) rfl rfl (by decide) (Nat.le_of_ble_eq_true rfl) (by cases eoa2; rfl) ?_
    refine jw_goto (tgt := 66) dX12_workEach_62 (by decide) ?_
    refine jw_forget [false, true, true, false] (L' := [none, none, none, none]) rfl ?_
    exact l_X12_workEach_b66  hq
  · refine jw_icmp_ne_t (tgt := 65) dX12_workEach_54 (by decide) c1 ?_
    refine jw_iconst dX12_workEach_65 (v := (0 : Int32)) (by decide) ?_
    refine jw_forget [false, true, true, false] (L' := [none, none, none, none]) rfl ?_
    exact l_X12_workEach_b66  hq

set_option maxRecDepth 100000 in
set_option maxHeartbeats 4000000 in
theorem l_X12_workEach {hi : jw_H} {h : jw_H} {x0 : Nat} {x1 : Int32} {r : Int32} {h' : jw_H} (hq : f_X12_workEach  h x0 x1 = some (r, h')) : jw_E 15 uX12_workEach hi 0 [some (.ref x0), some (.int x1), none, none] [] h (.inl (some (.int r))) h' := by
  unfold f_X12_workEach at hq
  refine jw_aload_n dX12_workEach_0 (o := (some x0)) rfl ?_
  obtain ⟨v1, ev1, hq⟩ := Option.bind_eq_some_iff.mp hq
  refine jw_getR (o := (some x0)) dX12_workEach_1 ev1 fl_X12_44 rfl ?_
  refine jw_iload_n dX12_workEach_4 rfl ?_
  obtain ⟨v2, ev2, hq⟩ := Option.bind_eq_some_iff.mp hq
  refine jw_iald (o := v1) dX12_workEach_5 ev2 ?_
  refine jw_istore_n (L' := [some (.ref x0), some (.int x1), some (.int v2), none]) dX12_workEach_6 (Nat.le_of_ble_eq_true rfl) rfl ?_
  refine jw_iload_n dX12_workEach_7 rfl ?_
  refine jw_bipush dX12_workEach_8 (v := (123 : Int32)) (by decide) ?_
  rcases jw_if hq with ⟨c3, hq⟩ | ⟨c3, hq⟩
  · refine jw_icmp_ne_f (tgt := 19) dX12_workEach_10 (by decide) c3 ?_
    refine jw_aload_n dX12_workEach_13 (o := (some x0)) rfl ?_
    refine jw_iload_n dX12_workEach_14 rfl ?_
    obtain ⟨a12, ea12, hq⟩ := Option.bind_eq_some_iff.mp hq
    obtain ⟨eoa12, eta12⟩ := jw_rc_spec ea12
    obtain ⟨w14, h13, ew14, hq⟩ := jw_b2_spec hq
    refine jw_callV (As := [.int x1]) (S := []) (a := a12) (v := some (.int w14)) dX12_workEach_15 mt_X12_workParts in_X12_workParts se_X12_workParts lk_X12_637 (c_X12_workParts ew14) eta12 (by decide) rfl rfl (by decide) (Nat.le_of_ble_eq_true rfl) (by cases eoa12; rfl) ?_
    cases hq
    exact jw_iret (ty := .int) dX12_workEach_18 rfl rfl
  · refine jw_icmp_ne_t (tgt := 19) dX12_workEach_10 (by decide) c3 ?_
    refine jw_aload_n dX12_workEach_19 (o := (some x0)) rfl ?_
    refine jw_iload_n dX12_workEach_20 rfl ?_
    refine jw_iconst dX12_workEach_21 (v := (2 : Int32)) (by decide) ?_
    refine jw_iadd dX12_workEach_22 ?_
    refine jw_bipush dX12_workEach_23 (v := (47 : Int32)) (by decide) ?_
    obtain ⟨a4, ea4, hq⟩ := Option.bind_eq_some_iff.mp hq
    obtain ⟨eoa4, eta4⟩ := jw_rc_spec ea4
    obtain ⟨w6, h5, ew6, hq⟩ := jw_b2_spec hq
    refine jw_callV (As := [.int (x1 + (2 : Int32)), .int (47 : Int32)]) (S := []) (a := a4) (v := none) dX12_workEach_25 mt_X12_compile in_X12_compile se_X12_compile lk_X12_310 (c_X12_compile ew6) eta4 (by decide) rfl rfl (by decide) (Nat.le_of_ble_eq_true rfl) (by cases eoa4; rfl) ?_
    refine jw_aload_n dX12_workEach_28 (o := (some x0)) rfl ?_
    obtain ⟨v7, ev7, hq⟩ := Option.bind_eq_some_iff.mp hq
    refine jw_getI (o := (some x0)) dX12_workEach_29 ev7 fl_X12_268 rfl ?_
    refine jw_iconst dX12_workEach_32 (v := (1 : Int32)) (by decide) ?_
    refine jw_iadd dX12_workEach_33 ?_
    refine jw_istore_n (L' := [some (.ref x0), some (.int x1), some (.int v2), some (.int (v7 + (1 : Int32)))]) dX12_workEach_34 (Nat.le_of_ble_eq_true rfl) rfl ?_
    refine jw_aload_n dX12_workEach_35 (o := (some x0)) rfl ?_
    refine jw_sipush dX12_workEach_36 (v := (429 : Int32)) (by decide) ?_
    refine jw_iconst dX12_workEach_39 (v := (0 : Int32)) (by decide) ?_
    obtain ⟨a8, ea8, hq⟩ := Option.bind_eq_some_iff.mp hq
    obtain ⟨eoa8, eta8⟩ := jw_rc_spec ea8
    obtain ⟨w10, h9, ew10, hq⟩ := jw_b2_spec hq
    refine jw_callV (As := [.int (429 : Int32), .int (0 : Int32)]) (S := []) (a := a8) (v := some (.int w10)) dX12_workEach_40 mt_X12_finds in_X12_finds se_X12_finds lk_X12_292 (c_X12_finds ew10) eta8 (by decide) rfl rfl (by decide) (Nat.le_of_ble_eq_true rfl) (by cases eoa8; rfl) ?_
    refine jw_iload_n dX12_workEach_43 rfl ?_
    refine jw_bipush dX12_workEach_44 (v := (103 : Int32)) (by decide) ?_
    rcases jw_if hq with ⟨c11, hq⟩ | ⟨c11, hq⟩
    · refine jw_icmp_ne_f (tgt := 53) dX12_workEach_46 (by decide) c11 ?_
      refine jw_iconst dX12_workEach_49 (v := (1 : Int32)) (by decide) ?_
      refine jw_goto (tgt := 54) dX12_workEach_50 (by decide) ?_
      refine jw_forget [true, false, false, true] (L' := [some (.ref x0), none, none, some (.int (v7 + (1 : Int32)))]) rfl ?_
      exact l_X12_workEach_b54  hq
    · refine jw_icmp_ne_t (tgt := 53) dX12_workEach_46 (by decide) c11 ?_
      refine jw_iconst dX12_workEach_53 (v := (0 : Int32)) (by decide) ?_
      refine jw_forget [true, false, false, true] (L' := [some (.ref x0), none, none, some (.int (v7 + (1 : Int32)))]) rfl ?_
      exact l_X12_workEach_b54  hq

theorem c_X12_workEach {h : jw_H} {x0 : Nat} {x1 : Int32} {r : Int32} {h' : jw_H} (hq : f_X12_workEach h x0 x1 = some (r, h')) : jw_Con (Cond.code yX12_workEach cX12_workEach 4 (some .int)) yX12_workEach 15 [.ref x0, .int x1] h (.inl (some (.int r))) h' :=
  jw_con false (plainFor_of_name (by decide +kernel)) (fun z => nomatch z) (by simp [jw_ent, jw_sl0_nil, jw_sl0_int, jw_sl0_long, jw_sl0_ref, jw_sl0_rf, jw_sl0_scr, List.replicate]) (by simp [jw_sl0_nil, jw_sl0_int, jw_sl0_long, jw_sl0_ref, jw_sl0_rf, jw_sl0_scr]) (l_X12_workEach hq)


/-! X12_putRest -/
noncomputable def g_X12_putRest_b2 (k2 : jw_H → Nat → Int32 → Option (Int32 × jw_H)) (h : jw_H) (x0 : Nat) (x1 : Int32) : Option (Int32 × jw_H) :=
 (jw_gI h 12 (some x0) 66).bind fun v1 =>
 (jw_gI h 12 (some x0) 65).bind fun v2 =>
 if v2 ≤ v1 then (some (x1, h))
 else (if x1 = 0 then ((jw_gI h 12 (some x0) 66).bind fun v5 =>
 (jw_gR h 12 (some x0) 7).bind fun v6 =>
 (jw_gI h 12 (some x0) 66).bind fun v7 =>
 (jw_ai h 20 v6 v7).bind fun v8 =>
 (jw_rc h 12 (some x0)).bind fun a9 =>
 jw_b2 (f_X12_put h a9 ((0 : Int32) + v5) v8) fun w11 h10 =>
 (jw_gI h10 12 (some x0) 66).bind fun v12 =>
 (jw_pI h10 12 (some x0) 66 (v12 + (1 : Int32))).bind fun h13 =>
 k2 h13 x0 w11)
 else (some (x1, h)))

noncomputable def f_X12_putRest_b2 (n : Nat) : jw_H → Nat → Int32 → Option (Int32 × jw_H) :=
 Nat.rec (fun _ _ _ => none) (fun _ k2 => g_X12_putRest_b2 k2) n

noncomputable def f_X12_putRest (h : jw_H) (x0 : Nat) : Option (Int32 × jw_H) :=
 f_X12_putRest_b2  jw_FU h x0 (0 : Int32)

set_option maxRecDepth 100000 in
set_option maxHeartbeats 4000000 in
theorem l_X12_putRest_b2g {hi : jw_H} {k2 : jw_H → Nat → Int32 → Option (Int32 × jw_H)} (hk2 : ∀ (h : jw_H) (x0 : Nat) (x1 : Int32) (r : Int32) (h' : jw_H), k2 h x0 x1 = some (r, h') → jw_E 2 uX12_putRest hi 2 [some (.ref x0), some (.int x1)] [] h (.inl (some (.int r))) h') {h : jw_H} {x0 : Nat} {x1 : Int32} {r : Int32} {h' : jw_H} (hq : g_X12_putRest_b2 k2 h x0 x1 = some (r, h')) : jw_E 2 uX12_putRest hi 2 [some (.ref x0), some (.int x1)] [] h (.inl (some (.int r))) h' := by
  unfold g_X12_putRest_b2 at hq
  refine jw_aload_n dX12_putRest_2 (o := (some x0)) rfl ?_
  obtain ⟨v1, ev1, hq⟩ := Option.bind_eq_some_iff.mp hq
  refine jw_getI (o := (some x0)) dX12_putRest_3 ev1 fl_X12_545 rfl ?_
  refine jw_aload_n dX12_putRest_6 (o := (some x0)) rfl ?_
  obtain ⟨v2, ev2, hq⟩ := Option.bind_eq_some_iff.mp hq
  refine jw_getI (o := (some x0)) dX12_putRest_7 ev2 fl_X12_563 rfl ?_
  rcases jw_if hq with ⟨c3, hq⟩ | ⟨c3, hq⟩
  · refine jw_icmp_ge_t (tgt := 50) dX12_putRest_10 (by decide) c3 ?_
    refine jw_iload_n dX12_putRest_50 rfl ?_
    cases hq
    exact jw_iret (ty := .int) dX12_putRest_51 rfl rfl
  · refine jw_icmp_ge_f (tgt := 50) dX12_putRest_10 (by decide) c3 ?_
    refine jw_iload_n dX12_putRest_13 rfl ?_
    rcases jw_if hq with ⟨c4, hq⟩ | ⟨c4, hq⟩
    · refine jw_if_ne_f (tgt := 50) dX12_putRest_14 (by decide) c4 ?_
      refine jw_aload_n dX12_putRest_17 (o := (some x0)) rfl ?_
      refine jw_iconst dX12_putRest_18 (v := (0 : Int32)) (by decide) ?_
      refine jw_aload_n dX12_putRest_19 (o := (some x0)) rfl ?_
      obtain ⟨v5, ev5, hq⟩ := Option.bind_eq_some_iff.mp hq
      refine jw_getI (o := (some x0)) dX12_putRest_20 ev5 fl_X12_545 rfl ?_
      refine jw_iadd dX12_putRest_23 ?_
      refine jw_aload_n dX12_putRest_24 (o := (some x0)) rfl ?_
      obtain ⟨v6, ev6, hq⟩ := Option.bind_eq_some_iff.mp hq
      refine jw_getR (o := (some x0)) dX12_putRest_25 ev6 fl_X12_26 rfl ?_
      refine jw_aload_n dX12_putRest_28 (o := (some x0)) rfl ?_
      obtain ⟨v7, ev7, hq⟩ := Option.bind_eq_some_iff.mp hq
      refine jw_getI (o := (some x0)) dX12_putRest_29 ev7 fl_X12_545 rfl ?_
      obtain ⟨v8, ev8, hq⟩ := Option.bind_eq_some_iff.mp hq
      refine jw_iald (o := v6) dX12_putRest_32 ev8 ?_
      obtain ⟨a9, ea9, hq⟩ := Option.bind_eq_some_iff.mp hq
      obtain ⟨eoa9, eta9⟩ := jw_rc_spec ea9
      obtain ⟨w11, h10, ew11, hq⟩ := jw_b2_spec hq
      refine jw_callV (As := [.int ((0 : Int32) + v5), .int v8]) (S := []) (a := a9) (v := some (.int w11)) dX12_putRest_33 mt_X12_put in_X12_put se_X12_put lk_X12_539 (c_X12_put ew11) eta9 (by decide) rfl rfl (by decide) (Nat.le_of_ble_eq_true rfl) (by cases eoa9; rfl) ?_
      refine jw_istore_n (L' := [some (.ref x0), some (.int w11)]) dX12_putRest_36 (Nat.le_of_ble_eq_true rfl) rfl ?_
      refine jw_aload_n dX12_putRest_37 (o := (some x0)) rfl ?_
      refine jw_dup dX12_putRest_38 rfl ?_
      obtain ⟨v12, ev12, hq⟩ := Option.bind_eq_some_iff.mp hq
      refine jw_getI (o := (some x0)) dX12_putRest_39 ev12 fl_X12_545 rfl ?_
      refine jw_iconst dX12_putRest_42 (v := (1 : Int32)) (by decide) ?_
      refine jw_iadd dX12_putRest_43 ?_
      obtain ⟨h13, eh13, hq⟩ := Option.bind_eq_some_iff.mp hq
      refine jw_putI (o := (some x0)) dX12_putRest_44 eh13 fl_X12_545 rfl rfl ?_
      refine jw_goto (tgt := 2) dX12_putRest_47 (by decide) ?_
      exact hk2 _ _ _ _ _ hq
    · refine jw_if_ne_t (tgt := 50) dX12_putRest_14 (by decide) c4 ?_
      refine jw_iload_n dX12_putRest_50 rfl ?_
      cases hq
      exact jw_iret (ty := .int) dX12_putRest_51 rfl rfl

theorem l_X12_putRest_b2 {hi : jw_H} : ∀ (n : Nat) (h : jw_H) (x0 : Nat) (x1 : Int32) (r : Int32) (h' : jw_H), f_X12_putRest_b2  n h x0 x1 = some (r, h') → jw_E 2 uX12_putRest hi 2 [some (.ref x0), some (.int x1)] [] h (.inl (some (.int r))) h' := by
  intro n
  induction n with
  | zero => intro h x0 x1 r h' hq; exact nomatch hq
  | succ n ih => intro h x0 x1 r h' hq; exact l_X12_putRest_b2g ih hq

set_option maxRecDepth 100000 in
set_option maxHeartbeats 4000000 in
theorem l_X12_putRest {hi : jw_H} {h : jw_H} {x0 : Nat} {r : Int32} {h' : jw_H} (hq : f_X12_putRest  h x0 = some (r, h')) : jw_E 2 uX12_putRest hi 0 [some (.ref x0), none] [] h (.inl (some (.int r))) h' := by
  unfold f_X12_putRest at hq
  refine jw_iconst dX12_putRest_0 (v := (0 : Int32)) (by decide) ?_
  refine jw_istore_n (L' := [some (.ref x0), some (.int (0 : Int32))]) dX12_putRest_1 (Nat.le_of_ble_eq_true rfl) rfl ?_
  exact l_X12_putRest_b2  jw_FU _ _ _ _ _ hq

theorem c_X12_putRest {h : jw_H} {x0 : Nat} {r : Int32} {h' : jw_H} (hq : f_X12_putRest h x0 = some (r, h')) : jw_Con (Cond.code yX12_putRest cX12_putRest 2 (some .int)) yX12_putRest 2 [.ref x0] h (.inl (some (.int r))) h' :=
  jw_con false (plainFor_of_name (by decide +kernel)) (fun z => nomatch z) (by simp [jw_ent, jw_sl0_nil, jw_sl0_int, jw_sl0_long, jw_sl0_ref, jw_sl0_rf, jw_sl0_scr, List.replicate]) (by simp [jw_sl0_nil, jw_sl0_int, jw_sl0_long, jw_sl0_ref, jw_sl0_rf, jw_sl0_scr]) (l_X12_putRest hq)


/-! X12_workSteer -/
noncomputable def g_X12_workSteer_b48 (h : jw_H) (t0 : Int32) : Option (Int32 × jw_H) :=
 some (t0, h)

noncomputable def f_X12_workSteer (h : jw_H) (x0 : Nat) (x1 : Int32) : Option (Int32 × jw_H) :=
 (jw_gR h 12 (some x0) 21).bind fun v1 =>
 (jw_ai h 20 v1 x1).bind fun v2 =>
 if v2 = (98 : Int32) then ((jw_rc h 12 (some x0)).bind fun a27 =>
 jw_b2 (f_X12_jump h a27 x1) fun w29 h28 =>
 some (w29, h28))
 else (if v2 = (84 : Int32) then ((jw_gI h 12 (some x0) 44).bind fun v21 =>
 (jw_pB h 12 (some x0) 44 (0 : Int32)).bind fun h22 =>
 if v21 = 0 then (g_X12_workSteer_b48  h22 (0 : Int32))
 else ((jw_rc h22 12 (some x0)).bind fun a24 =>
 jw_b2 (f_X12_jump h22 a24 x1) fun w26 h25 =>
 g_X12_workSteer_b48  h25 w26))
 else ((jw_rc h 12 (some x0)).bind fun a5 =>
 jw_b2 (f_X12_putWork h a5) fun w7 h6 =>
 if w7 ≤ 0 then (if v2 = (113 : Int32) then ((jw_pB h6 12 (some x0) 71 (1 : Int32)).bind fun h17 =>
 (jw_rc h17 12 (some x0)).bind fun a18 =>
 jw_b2 (f_X12_putRest h17 a18) fun w20 h19 =>
 some (w20, h19))
 else ((jw_gI h6 12 (some x0) 66).bind fun v10 =>
 (jw_gI h6 12 (some x0) 65).bind fun v11 =>
 if v10 = v11 then ((jw_pB h6 12 (some x0) 71 (1 : Int32)).bind fun h16 =>
 some ((0 : Int32), h16))
 else ((jw_rc h6 12 (some x0)).bind fun a13 =>
 jw_b2 (f_X12_takeNext h6 a13) fun w15 h14 =>
 some ((0 : Int32), h14))))
 else (some (w7, h6))))

set_option maxRecDepth 100000 in
set_option maxHeartbeats 4000000 in
theorem l_X12_workSteer_b48 {hi : jw_H} {h : jw_H} {t0 : Int32} {r : Int32} {h' : jw_H} (hq : g_X12_workSteer_b48  h t0 = some (r, h')) : jw_E 16 uX12_workSteer hi 48 [none, none, none, none] [.int t0] h (.inl (some (.int r))) h' := by
  unfold g_X12_workSteer_b48 at hq
  cases hq
  exact jw_iret (ty := .int) dX12_workSteer_48 rfl rfl

set_option maxRecDepth 100000 in
set_option maxHeartbeats 4000000 in
theorem l_X12_workSteer {hi : jw_H} {h : jw_H} {x0 : Nat} {x1 : Int32} {r : Int32} {h' : jw_H} (hq : f_X12_workSteer  h x0 x1 = some (r, h')) : jw_E 16 uX12_workSteer hi 0 [some (.ref x0), some (.int x1), none, none] [] h (.inl (some (.int r))) h' := by
  unfold f_X12_workSteer at hq
  refine jw_aload_n dX12_workSteer_0 (o := (some x0)) rfl ?_
  obtain ⟨v1, ev1, hq⟩ := Option.bind_eq_some_iff.mp hq
  refine jw_getR (o := (some x0)) dX12_workSteer_1 ev1 fl_X12_44 rfl ?_
  refine jw_iload_n dX12_workSteer_4 rfl ?_
  obtain ⟨v2, ev2, hq⟩ := Option.bind_eq_some_iff.mp hq
  refine jw_iald (o := v1) dX12_workSteer_5 ev2 ?_
  refine jw_istore_n (L' := [some (.ref x0), some (.int x1), some (.int v2), none]) dX12_workSteer_6 (Nat.le_of_ble_eq_true rfl) rfl ?_
  refine jw_iload_n dX12_workSteer_7 rfl ?_
  refine jw_bipush dX12_workSteer_8 (v := (98 : Int32)) (by decide) ?_
  rcases jw_if hq with ⟨c3, hq⟩ | ⟨c3, hq⟩
  · refine jw_icmp_ne_f (tgt := 19) dX12_workSteer_10 (by decide) c3 ?_
    refine jw_aload_n dX12_workSteer_13 (o := (some x0)) rfl ?_
    refine jw_iload_n dX12_workSteer_14 rfl ?_
    obtain ⟨a27, ea27, hq⟩ := Option.bind_eq_some_iff.mp hq
    obtain ⟨eoa27, eta27⟩ := jw_rc_spec ea27
    obtain ⟨w29, h28, ew29, hq⟩ := jw_b2_spec hq
    refine jw_callV (As := [.int x1]) (S := []) (a := a27) (v := some (.int w29)) dX12_workSteer_15 mt_X12_jump in_X12_jump se_X12_jump lk_X12_509 (c_X12_jump ew29) eta27 (by decide) rfl rfl (by decide) (Nat.le_of_ble_eq_true rfl) (by cases eoa27; rfl) ?_
    cases hq
    exact jw_iret (ty := .int) dX12_workSteer_18 rfl rfl
  · refine jw_icmp_ne_t (tgt := 19) dX12_workSteer_10 (by decide) c3 ?_
    refine jw_iload_n dX12_workSteer_19 rfl ?_
    refine jw_bipush dX12_workSteer_20 (v := (84 : Int32)) (by decide) ?_
    rcases jw_if hq with ⟨c4, hq⟩ | ⟨c4, hq⟩
    · refine jw_icmp_ne_f (tgt := 49) dX12_workSteer_22 (by decide) c4 ?_
      refine jw_aload_n dX12_workSteer_25 (o := (some x0)) rfl ?_
      obtain ⟨v21, ev21, hq⟩ := Option.bind_eq_some_iff.mp hq
      refine jw_getI (o := (some x0)) dX12_workSteer_26 ev21 fl_X12_385 rfl ?_
      refine jw_istore_n (L' := [some (.ref x0), some (.int x1), some (.int v2), some (.int v21)]) dX12_workSteer_29 (Nat.le_of_ble_eq_true rfl) rfl ?_
      refine jw_aload_n dX12_workSteer_30 (o := (some x0)) rfl ?_
      refine jw_iconst dX12_workSteer_31 (v := (0 : Int32)) (by decide) ?_
      obtain ⟨h22, eh22, hq⟩ := Option.bind_eq_some_iff.mp hq
      refine jw_putB (o := (some x0)) dX12_workSteer_32 eh22 fl_X12_385 rfl rfl ?_
      refine jw_iload_n dX12_workSteer_35 rfl ?_
      rcases jw_if hq with ⟨c23, hq⟩ | ⟨c23, hq⟩
      · refine jw_if_eq_t (tgt := 47) dX12_workSteer_36 (by decide) c23 ?_
        refine jw_iconst dX12_workSteer_47 (v := (0 : Int32)) (by decide) ?_
        refine jw_forget [false, false, false, false] (L' := [none, none, none, none]) rfl ?_
        exact l_X12_workSteer_b48  hq
      · refine jw_if_eq_f (tgt := 47) dX12_workSteer_36 (by decide) c23 ?_
        refine jw_aload_n dX12_workSteer_39 (o := (some x0)) rfl ?_
        refine jw_iload_n dX12_workSteer_40 rfl ?_
        obtain ⟨a24, ea24, hq⟩ := Option.bind_eq_some_iff.mp hq
        obtain ⟨eoa24, eta24⟩ := jw_rc_spec ea24
        obtain ⟨w26, h25, ew26, hq⟩ := jw_b2_spec hq
        refine jw_callV (As := [.int x1]) (S := []) (a := a24) (v := some (.int w26)) dX12_workSteer_41 mt_X12_jump in_X12_jump se_X12_jump lk_X12_509 (c_X12_jump ew26) eta24 (by decide) rfl rfl (by decide) (Nat.le_of_ble_eq_true rfl) (by cases eoa24; rfl) ?_
        refine jw_goto (tgt := 48) dX12_workSteer_44 (by decide) ?_
        refine jw_forget [false, false, false, false] (L' := [none, none, none, none]) rfl ?_
        exact l_X12_workSteer_b48  hq
    · refine jw_icmp_ne_t (tgt := 49) dX12_workSteer_22 (by decide) c4 ?_
      refine jw_aload_n dX12_workSteer_49 (o := (some x0)) rfl ?_
      obtain ⟨a5, ea5, hq⟩ := Option.bind_eq_some_iff.mp hq
      obtain ⟨eoa5, eta5⟩ := jw_rc_spec ea5
      obtain ⟨w7, h6, ew7, hq⟩ := jw_b2_spec hq
      refine jw_callV (As := []) (S := []) (a := a5) (v := some (.int w7)) dX12_workSteer_50 mt_X12_putWork in_X12_putWork se_X12_putWork lk_X12_640 (c_X12_putWork ew7) eta5 (by decide) rfl rfl (by decide) (Nat.le_of_ble_eq_true rfl) (by cases eoa5; rfl) ?_
      refine jw_istore_n (L' := [some (.ref x0), some (.int x1), some (.int v2), some (.int w7)]) dX12_workSteer_53 (Nat.le_of_ble_eq_true rfl) rfl ?_
      refine jw_iload_n dX12_workSteer_54 rfl ?_
      rcases jw_if hq with ⟨c8, hq⟩ | ⟨c8, hq⟩
      · refine jw_if_le_t (tgt := 60) dX12_workSteer_55 (by decide) c8 ?_
        refine jw_iload_n dX12_workSteer_60 rfl ?_
        refine jw_bipush dX12_workSteer_61 (v := (113 : Int32)) (by decide) ?_
        rcases jw_if hq with ⟨c9, hq⟩ | ⟨c9, hq⟩
        · refine jw_icmp_ne_f (tgt := 76) dX12_workSteer_63 (by decide) c9 ?_
          refine jw_aload_n dX12_workSteer_66 (o := (some x0)) rfl ?_
          refine jw_iconst dX12_workSteer_67 (v := (1 : Int32)) (by decide) ?_
          obtain ⟨h17, eh17, hq⟩ := Option.bind_eq_some_iff.mp hq
          refine jw_putB (o := (some x0)) dX12_workSteer_68 eh17 fl_X12_643 rfl rfl ?_
          refine jw_aload_n dX12_workSteer_71 (o := (some x0)) rfl ?_
          obtain ⟨a18, ea18, hq⟩ := Option.bind_eq_some_iff.mp hq
          obtain ⟨eoa18, eta18⟩ := jw_rc_spec ea18
          obtain ⟨w20, h19, ew20, hq⟩ := jw_b2_spec hq
          refine jw_callV (As := []) (S := []) (a := a18) (v := some (.int w20)) dX12_workSteer_72 mt_X12_putRest in_X12_putRest se_X12_putRest lk_X12_646 (c_X12_putRest ew20) eta18 (by decide) rfl rfl (by decide) (Nat.le_of_ble_eq_true rfl) (by cases eoa18; rfl) ?_
          cases hq
          exact jw_iret (ty := .int) dX12_workSteer_75 rfl rfl
        · refine jw_icmp_ne_t (tgt := 76) dX12_workSteer_63 (by decide) c9 ?_
          refine jw_aload_n dX12_workSteer_76 (o := (some x0)) rfl ?_
          obtain ⟨v10, ev10, hq⟩ := Option.bind_eq_some_iff.mp hq
          refine jw_getI (o := (some x0)) dX12_workSteer_77 ev10 fl_X12_545 rfl ?_
          refine jw_aload_n dX12_workSteer_80 (o := (some x0)) rfl ?_
          obtain ⟨v11, ev11, hq⟩ := Option.bind_eq_some_iff.mp hq
          refine jw_getI (o := (some x0)) dX12_workSteer_81 ev11 fl_X12_563 rfl ?_
          rcases jw_if hq with ⟨c12, hq⟩ | ⟨c12, hq⟩
          · refine jw_icmp_ne_f (tgt := 95) dX12_workSteer_84 (by decide) c12 ?_
            refine jw_aload_n dX12_workSteer_87 (o := (some x0)) rfl ?_
            refine jw_iconst dX12_workSteer_88 (v := (1 : Int32)) (by decide) ?_
            obtain ⟨h16, eh16, hq⟩ := Option.bind_eq_some_iff.mp hq
            refine jw_putB (o := (some x0)) dX12_workSteer_89 eh16 fl_X12_643 rfl rfl ?_
            refine jw_goto (tgt := 99) dX12_workSteer_92 (by decide) ?_
            refine jw_iconst dX12_workSteer_99 (v := (0 : Int32)) (by decide) ?_
            cases hq
            exact jw_iret (ty := .int) dX12_workSteer_100 rfl rfl
          · refine jw_icmp_ne_t (tgt := 95) dX12_workSteer_84 (by decide) c12 ?_
            refine jw_aload_n dX12_workSteer_95 (o := (some x0)) rfl ?_
            obtain ⟨a13, ea13, hq⟩ := Option.bind_eq_some_iff.mp hq
            obtain ⟨eoa13, eta13⟩ := jw_rc_spec ea13
            obtain ⟨w15, h14, ew15, hq⟩ := jw_b2_spec hq
            refine jw_callV (As := []) (S := []) (a := a13) (v := none) dX12_workSteer_96 mt_X12_takeNext in_X12_takeNext se_X12_takeNext lk_X12_649 (c_X12_takeNext ew15) eta13 (by decide) rfl rfl (by decide) (Nat.le_of_ble_eq_true rfl) (by cases eoa13; rfl) ?_
            refine jw_iconst dX12_workSteer_99 (v := (0 : Int32)) (by decide) ?_
            cases hq
            exact jw_iret (ty := .int) dX12_workSteer_100 rfl rfl
      · refine jw_if_le_f (tgt := 60) dX12_workSteer_55 (by decide) c8 ?_
        refine jw_iload_n dX12_workSteer_58 rfl ?_
        cases hq
        exact jw_iret (ty := .int) dX12_workSteer_59 rfl rfl

theorem c_X12_workSteer {h : jw_H} {x0 : Nat} {x1 : Int32} {r : Int32} {h' : jw_H} (hq : f_X12_workSteer h x0 x1 = some (r, h')) : jw_Con (Cond.code yX12_workSteer cX12_workSteer 4 (some .int)) yX12_workSteer 16 [.ref x0, .int x1] h (.inl (some (.int r))) h' :=
  jw_con false (plainFor_of_name (by decide +kernel)) (fun z => nomatch z) (by simp [jw_ent, jw_sl0_nil, jw_sl0_int, jw_sl0_long, jw_sl0_ref, jw_sl0_rf, jw_sl0_scr, List.replicate]) (by simp [jw_sl0_nil, jw_sl0_int, jw_sl0_long, jw_sl0_ref, jw_sl0_rf, jw_sl0_scr]) (l_X12_workSteer hq)


/-! X12_workOrder -/
noncomputable def g_X12_workOrder_b103 (h : jw_H) (x0 : Nat) (x4 : Int32) : Option (Int32 × jw_H) :=
 (jw_rc h 12 (some x0)).bind fun a1 =>
 jw_b2 (f_X12_workSteer h a1 x4) fun w3 h2 =>
 some (w3, h2)

noncomputable def g_X12_workOrder_b147 (h : jw_H) (t0 : Int32) : Option (Int32 × jw_H) :=
 some (t0, h)

noncomputable def g_X12_workOrder_b131 (h : jw_H) (x0 : Nat) (x4 : Int32) : Option (Int32 × jw_H) :=
 (jw_rc h 12 (some x0)).bind fun a1 =>
 jw_b2 (f_X12_workEach h a1 x4) fun w3 h2 =>
 g_X12_workOrder_b147  h2 w3

noncomputable def g_X12_workOrder_b26 (h : jw_H) (x0 : Nat) (x1 : Int32) (t0 : Nat) (t1 : Int32) : Option (Int32 × jw_H) :=
 (jw_pI h 12 (some t0) 64 t1).bind fun h1 =>
 (jw_rc h1 12 (some x0)).bind fun a2 =>
 jw_b2 (f_X12_comesTo h1 a2 x1) fun w4 h3 =>
 if w4 ≤ 0 then ((jw_gI h3 12 (some x0) 30).bind fun v6 =>
 (jw_rc h3 12 (some x0)).bind fun a7 =>
 jw_b2 (f_X12_whereHolds h3 a7 x1) fun w9 h8 =>
 if w9 = 0 then (some ((0 : Int32), h8))
 else ((jw_gR h8 12 (some x0) 21).bind fun v11 =>
 (jw_ai h8 20 v11 v6).bind fun v12 =>
 if v12 = (58 : Int32) then (some ((0 : Int32), h8))
 else (if v12 = (113 : Int32) then (g_X12_workOrder_b103  h8 x0 v6)
 else (if v12 = (98 : Int32) then (g_X12_workOrder_b103  h8 x0 v6)
 else (if v12 = (84 : Int32) then (g_X12_workOrder_b103  h8 x0 v6)
 else (if v12 = (78 : Int32) then (g_X12_workOrder_b103  h8 x0 v6)
 else (if v12 = (103 : Int32) then (g_X12_workOrder_b131  h8 x0 v6)
 else (if v12 = (71 : Int32) then (g_X12_workOrder_b131  h8 x0 v6)
 else (if v12 = (123 : Int32) then (g_X12_workOrder_b131  h8 x0 v6)
 else ((jw_rc h8 12 (some x0)).bind fun a21 =>
 jw_b2 (f_X12_workAct h8 a21 x1 v6) fun w23 h22 =>
 g_X12_workOrder_b147  h22 w23))))))))))
 else (some (w4, h3))

noncomputable def f_X12_workOrder (h : jw_H) (x0 : Nat) (x1 : Int32) : Option (Int32 × jw_H) :=
 (jw_rc h 12 (some x0)).bind fun a1 =>
 jw_b2 (f_X12_endOf h a1 x1 (0 : Int32)) fun w3 h2 =>
 (jw_gI h2 12 (some x0) 22).bind fun v4 =>
 if v4 ≤ w3 then ((jw_gI h2 12 (some x0) 22).bind fun v6 =>
 g_X12_workOrder_b26  h2 x0 x1 x0 v6)
 else (g_X12_workOrder_b26  h2 x0 x1 x0 (w3 + (1 : Int32)))

set_option maxRecDepth 100000 in
set_option maxHeartbeats 4000000 in
theorem l_X12_workOrder_b103 {hi : jw_H} {h : jw_H} {x0 : Nat} {x4 : Int32} {r : Int32} {h' : jw_H} (hq : g_X12_workOrder_b103  h x0 x4 = some (r, h')) : jw_E 17 uX12_workOrder hi 103 [some (.ref x0), none, none, none, some (.int x4), none] [] h (.inl (some (.int r))) h' := by
  unfold g_X12_workOrder_b103 at hq
  refine jw_aload_n dX12_workOrder_103 (o := (some x0)) rfl ?_
  refine jw_iload dX12_workOrder_104 rfl ?_
  obtain ⟨a1, ea1, hq⟩ := Option.bind_eq_some_iff.mp hq
  obtain ⟨eoa1, eta1⟩ := jw_rc_spec ea1
  obtain ⟨w3, h2, ew3, hq⟩ := jw_b2_spec hq
  refine jw_callV (As := [.int x4]) (S := []) (a := a1) (v := some (.int w3)) dX12_workOrder_106 mt_X12_workSteer in_X12_workSteer se_X12_workSteer lk_X12_652 (c_X12_workSteer ew3) eta1 (by decide) rfl rfl (by decide) (Nat.le_of_ble_eq_true rfl) (by cases eoa1; rfl) ?_
  cases hq
  exact jw_iret (ty := .int) dX12_workOrder_109 rfl rfl

set_option maxRecDepth 100000 in
set_option maxHeartbeats 4000000 in
theorem l_X12_workOrder_b147 {hi : jw_H} {h : jw_H} {t0 : Int32} {r : Int32} {h' : jw_H} (hq : g_X12_workOrder_b147  h t0 = some (r, h')) : jw_E 17 uX12_workOrder hi 147 [none, none, none, none, none, none] [.int t0] h (.inl (some (.int r))) h' := by
  unfold g_X12_workOrder_b147 at hq
  cases hq
  exact jw_iret (ty := .int) dX12_workOrder_147 rfl rfl

set_option maxRecDepth 100000 in
set_option maxHeartbeats 4000000 in
theorem l_X12_workOrder_b131 {hi : jw_H} {h : jw_H} {x0 : Nat} {x4 : Int32} {r : Int32} {h' : jw_H} (hq : g_X12_workOrder_b131  h x0 x4 = some (r, h')) : jw_E 17 uX12_workOrder hi 131 [some (.ref x0), none, none, none, some (.int x4), none] [] h (.inl (some (.int r))) h' := by
  unfold g_X12_workOrder_b131 at hq
  refine jw_aload_n dX12_workOrder_131 (o := (some x0)) rfl ?_
  refine jw_iload dX12_workOrder_132 rfl ?_
  obtain ⟨a1, ea1, hq⟩ := Option.bind_eq_some_iff.mp hq
  obtain ⟨eoa1, eta1⟩ := jw_rc_spec ea1
  obtain ⟨w3, h2, ew3, hq⟩ := jw_b2_spec hq
  refine jw_callV (As := [.int x4]) (S := []) (a := a1) (v := some (.int w3)) dX12_workOrder_134 mt_X12_workEach in_X12_workEach se_X12_workEach lk_X12_655 (c_X12_workEach ew3) eta1 (by decide) rfl rfl (by decide) (Nat.le_of_ble_eq_true rfl) (by cases eoa1; rfl) ?_
  refine jw_goto (tgt := 147) dX12_workOrder_137 (by decide) ?_
  refine jw_forget [false, true, true, true, false, true] (L' := [none, none, none, none, none, none]) rfl ?_
  exact l_X12_workOrder_b147  hq

set_option maxRecDepth 100000 in
set_option maxHeartbeats 4000000 in
theorem l_X12_workOrder_b26 {hi : jw_H} {h : jw_H} {x0 : Nat} {x1 : Int32} {t0 : Nat} {t1 : Int32} {r : Int32} {h' : jw_H} (hq : g_X12_workOrder_b26  h x0 x1 t0 t1 = some (r, h')) : jw_E 17 uX12_workOrder hi 26 [some (.ref x0), some (.int x1), none, none, none, none] [.int t1, .ref t0] h (.inl (some (.int r))) h' := by
  unfold g_X12_workOrder_b26 at hq
  obtain ⟨h1, eh1, hq⟩ := Option.bind_eq_some_iff.mp hq
  refine jw_putI (o := (some t0)) dX12_workOrder_26 eh1 fl_X12_506 rfl rfl ?_
  refine jw_aload_n dX12_workOrder_29 (o := (some x0)) rfl ?_
  refine jw_iload_n dX12_workOrder_30 rfl ?_
  obtain ⟨a2, ea2, hq⟩ := Option.bind_eq_some_iff.mp hq
  obtain ⟨eoa2, eta2⟩ := jw_rc_spec ea2
  obtain ⟨w4, h3, ew4, hq⟩ := jw_b2_spec hq
  refine jw_callV (As := [.int x1]) (S := []) (a := a2) (v := some (.int w4)) dX12_workOrder_31 mt_X12_comesTo in_X12_comesTo se_X12_comesTo lk_X12_625 (c_X12_comesTo ew4) eta2 (by decide) rfl rfl (by decide) (Nat.le_of_ble_eq_true rfl) (by cases eoa2; rfl) ?_
  refine jw_istore_n (L' := [some (.ref x0), some (.int x1), none, some (.int w4), none, none]) dX12_workOrder_34 (Nat.le_of_ble_eq_true rfl) rfl ?_
  refine jw_iload_n dX12_workOrder_35 rfl ?_
  rcases jw_if hq with ⟨c5, hq⟩ | ⟨c5, hq⟩
  · refine jw_if_le_t (tgt := 41) dX12_workOrder_36 (by decide) c5 ?_
    refine jw_aload_n dX12_workOrder_41 (o := (some x0)) rfl ?_
    obtain ⟨v6, ev6, hq⟩ := Option.bind_eq_some_iff.mp hq
    refine jw_getI (o := (some x0)) dX12_workOrder_42 ev6 fl_X12_218 rfl ?_
    refine jw_istore (L' := [some (.ref x0), some (.int x1), none, some (.int w4), some (.int v6), none]) dX12_workOrder_45 (Nat.le_of_ble_eq_true rfl) rfl ?_
    refine jw_aload_n dX12_workOrder_47 (o := (some x0)) rfl ?_
    refine jw_iload_n dX12_workOrder_48 rfl ?_
    obtain ⟨a7, ea7, hq⟩ := Option.bind_eq_some_iff.mp hq
    obtain ⟨eoa7, eta7⟩ := jw_rc_spec ea7
    obtain ⟨w9, h8, ew9, hq⟩ := jw_b2_spec hq
    refine jw_callV (As := [.int x1]) (S := []) (a := a7) (v := some (.int w9)) dX12_workOrder_49 mt_X12_whereHolds in_X12_whereHolds se_X12_whereHolds lk_X12_628 (c_X12_whereHolds ew9) eta7 (by decide) rfl rfl (by decide) (Nat.le_of_ble_eq_true rfl) (by cases eoa7; rfl) ?_
    rcases jw_if hq with ⟨c10, hq⟩ | ⟨c10, hq⟩
    · refine jw_if_ne_f (tgt := 57) dX12_workOrder_52 (by decide) c10 ?_
      refine jw_iconst dX12_workOrder_55 (v := (0 : Int32)) (by decide) ?_
      cases hq
      exact jw_iret (ty := .int) dX12_workOrder_56 rfl rfl
    · refine jw_if_ne_t (tgt := 57) dX12_workOrder_52 (by decide) c10 ?_
      refine jw_aload_n dX12_workOrder_57 (o := (some x0)) rfl ?_
      obtain ⟨v11, ev11, hq⟩ := Option.bind_eq_some_iff.mp hq
      refine jw_getR (o := (some x0)) dX12_workOrder_58 ev11 fl_X12_44 rfl ?_
      refine jw_iload dX12_workOrder_61 rfl ?_
      obtain ⟨v12, ev12, hq⟩ := Option.bind_eq_some_iff.mp hq
      refine jw_iald (o := v11) dX12_workOrder_63 ev12 ?_
      refine jw_istore (L' := [some (.ref x0), some (.int x1), none, some (.int w4), some (.int v6), some (.int v12)]) dX12_workOrder_64 (Nat.le_of_ble_eq_true rfl) rfl ?_
      refine jw_iload dX12_workOrder_66 rfl ?_
      refine jw_bipush dX12_workOrder_68 (v := (58 : Int32)) (by decide) ?_
      rcases jw_if hq with ⟨c13, hq⟩ | ⟨c13, hq⟩
      · refine jw_icmp_ne_f (tgt := 75) dX12_workOrder_70 (by decide) c13 ?_
        refine jw_iconst dX12_workOrder_73 (v := (0 : Int32)) (by decide) ?_
        cases hq
        exact jw_iret (ty := .int) dX12_workOrder_74 rfl rfl
      · refine jw_icmp_ne_t (tgt := 75) dX12_workOrder_70 (by decide) c13 ?_
        refine jw_iload dX12_workOrder_75 rfl ?_
        refine jw_bipush dX12_workOrder_77 (v := (113 : Int32)) (by decide) ?_
        rcases jw_if hq with ⟨c14, hq⟩ | ⟨c14, hq⟩
        · refine jw_icmp_eq_t (tgt := 103) dX12_workOrder_79 (by decide) c14 ?_
          refine jw_forget [true, false, true, false, true, false] (L' := [some (.ref x0), none, none, none, some (.int v6), none]) rfl ?_
          exact l_X12_workOrder_b103  hq
        · refine jw_icmp_eq_f (tgt := 103) dX12_workOrder_79 (by decide) c14 ?_
          refine jw_iload dX12_workOrder_82 rfl ?_
          refine jw_bipush dX12_workOrder_84 (v := (98 : Int32)) (by decide) ?_
          rcases jw_if hq with ⟨c15, hq⟩ | ⟨c15, hq⟩
          · refine jw_icmp_eq_t (tgt := 103) dX12_workOrder_86 (by decide) c15 ?_
            refine jw_forget [true, false, true, false, true, false] (L' := [some (.ref x0), none, none, none, some (.int v6), none]) rfl ?_
            exact l_X12_workOrder_b103  hq
          · refine jw_icmp_eq_f (tgt := 103) dX12_workOrder_86 (by decide) c15 ?_
            refine jw_iload dX12_workOrder_89 rfl ?_
            refine jw_bipush dX12_workOrder_91 (v := (84 : Int32)) (by decide) ?_
            rcases jw_if hq with ⟨c16, hq⟩ | ⟨c16, hq⟩
            · refine jw_icmp_eq_t (tgt := 103) dX12_workOrder_93 (by decide) c16 ?_
              refine jw_forget [true, false, true, false, true, false] (L' := [some (.ref x0), none, none, none, some (.int v6), none]) rfl ?_
              exact l_X12_workOrder_b103  hq
            · refine jw_icmp_eq_f (tgt := 103) dX12_workOrder_93 (by decide) c16 ?_
              refine jw_iload dX12_workOrder_96 rfl ?_
              refine jw_bipush dX12_workOrder_98 (v := (78 : Int32)) (by decide) ?_
              rcases jw_if hq with ⟨c17, hq⟩ | ⟨c17, hq⟩
              · refine jw_icmp_ne_f (tgt := 110) dX12_workOrder_100 (by decide) c17 ?_
                refine jw_forget [true, false, true, false, true, false] (L' := [some (.ref x0), none, none, none, some (.int v6), none]) rfl ?_
                exact l_X12_workOrder_b103  hq
              · refine jw_icmp_ne_t (tgt := 110) dX12_workOrder_100 (by decide) c17 ?_
                refine jw_iload dX12_workOrder_110 rfl ?_
                refine jw_bipush dX12_workOrder_112 (v := (103 : Int32)) (by decide) ?_
                rcases jw_if hq with ⟨c18, hq⟩ | ⟨c18, hq⟩
                · refine jw_icmp_eq_t (tgt := 131) dX12_workOrder_114 (by decide) c18 ?_
                  refine jw_forget [true, false, true, false, true, false] (L' := [some (.ref x0), none, none, none, some (.int v6), none]) rfl ?_
                  exact l_X12_workOrder_b131  hq
                · refine jw_icmp_eq_f (tgt := 131) dX12_workOrder_114 (by decide) c18 ?_
                  refine jw_iload dX12_workOrder_117 rfl ?_
                  refine jw_bipush dX12_workOrder_119 (v := (71 : Int32)) (by decide) ?_
                  rcases jw_if hq with ⟨c19, hq⟩ | ⟨c19, hq⟩
                  · refine jw_icmp_eq_t (tgt := 131) dX12_workOrder_121 (by decide) c19 ?_
                    refine jw_forget [true, false, true, false, true, false] (L' := [some (.ref x0), none, none, none, some (.int v6), none]) rfl ?_
                    exact l_X12_workOrder_b131  hq
                  · refine jw_icmp_eq_f (tgt := 131) dX12_workOrder_121 (by decide) c19 ?_
                    refine jw_iload dX12_workOrder_124 rfl ?_
                    refine jw_bipush dX12_workOrder_126 (v := (123 : Int32)) (by decide) ?_
                    rcases jw_if hq with ⟨c20, hq⟩ | ⟨c20, hq⟩
                    · refine jw_icmp_ne_f (tgt := 140) dX12_workOrder_128 (by decide) c20 ?_
                      refine jw_forget [true, false, true, false, true, false] (L' := [some (.ref x0), none, none, none, some (.int v6), none]) rfl ?_
                      exact l_X12_workOrder_b131  hq
                    · refine jw_icmp_ne_t (tgt := 140) dX12_workOrder_128 (by decide) c20 ?_
                      refine jw_aload_n dX12_workOrder_140 (o := (some x0)) rfl ?_
                      refine jw_iload_n dX12_workOrder_141 rfl ?_
                      refine jw_iload dX12_workOrder_142 rfl ?_
                      obtain ⟨a21, ea21, hq⟩ := Option.bind_eq_some_iff.mp hq
                      obtain ⟨eoa21, eta21⟩ := jw_rc_spec ea21
                      obtain ⟨w23, h22, ew23, hq⟩ := jw_b2_spec hq
                      refine jw_callV (As := [.int x1, .int v6]) (S := []) (a := a21) (v := some (.int w23)) dX12_workOrder_144 mt_X12_workAct in_X12_workAct se_X12_workAct lk_X12_631 (c_X12_workAct ew23) eta21 (by decide) rfl rfl (by decide) (Nat.le_of_ble_eq_true rfl) (by cases eoa21; rfl) ?_
                      refine jw_forget [false, false, true, false, false, false] (L' := [none, none, none, none, none, none]) rfl ?_
                      exact l_X12_workOrder_b147  hq
  · refine jw_if_le_f (tgt := 41) dX12_workOrder_36 (by decide) c5 ?_
    refine jw_iload_n dX12_workOrder_39 rfl ?_
    cases hq
    exact jw_iret (ty := .int) dX12_workOrder_40 rfl rfl

set_option maxRecDepth 100000 in
set_option maxHeartbeats 4000000 in
theorem l_X12_workOrder {hi : jw_H} {h : jw_H} {x0 : Nat} {x1 : Int32} {r : Int32} {h' : jw_H} (hq : f_X12_workOrder  h x0 x1 = some (r, h')) : jw_E 17 uX12_workOrder hi 0 [some (.ref x0), some (.int x1), none, none, none, none] [] h (.inl (some (.int r))) h' := by
  unfold f_X12_workOrder at hq
  refine jw_aload_n dX12_workOrder_0 (o := (some x0)) rfl ?_
  refine jw_iload_n dX12_workOrder_1 rfl ?_
  refine jw_iconst dX12_workOrder_2 (v := (0 : Int32)) (by decide) ?_
  obtain ⟨a1, ea1, hq⟩ := Option.bind_eq_some_iff.mp hq
  obtain ⟨eoa1, eta1⟩ := jw_rc_spec ea1
  obtain ⟨w3, h2, ew3, hq⟩ := jw_b2_spec hq
  refine jw_callV (As := [.int x1, .int (0 : Int32)]) (S := []) (a := a1) (v := some (.int w3)) dX12_workOrder_3 mt_X12_endOf in_X12_endOf se_X12_endOf lk_X12_470 (c_X12_endOf ew3) eta1 (by decide) rfl rfl (by decide) (Nat.le_of_ble_eq_true rfl) (by cases eoa1; rfl) ?_
  refine jw_istore_n (L' := [some (.ref x0), some (.int x1), some (.int w3), none, none, none]) dX12_workOrder_6 (Nat.le_of_ble_eq_true rfl) rfl ?_
  refine jw_aload_n dX12_workOrder_7 (o := (some x0)) rfl ?_
  refine jw_iload_n dX12_workOrder_8 rfl ?_
  refine jw_aload_n dX12_workOrder_9 (o := (some x0)) rfl ?_
  obtain ⟨v4, ev4, hq⟩ := Option.bind_eq_some_iff.mp hq
  refine jw_getI (o := (some x0)) dX12_workOrder_10 ev4 fl_X12_146 rfl ?_
  rcases jw_if hq with ⟨c5, hq⟩ | ⟨c5, hq⟩
  · refine jw_icmp_ge_t (tgt := 22) dX12_workOrder_13 (by decide) c5 ?_
    refine jw_aload_n dX12_workOrder_22 (o := (some x0)) rfl ?_
    obtain ⟨v6, ev6, hq⟩ := Option.bind_eq_some_iff.mp hq
    refine jw_getI (o := (some x0)) dX12_workOrder_23 ev6 fl_X12_146 rfl ?_
    refine jw_forget [true, true, false, true, true, true] (L' := [some (.ref x0), some (.int x1), none, none, none, none]) rfl ?_
    exact l_X12_workOrder_b26  hq
  · refine jw_icmp_ge_f (tgt := 22) dX12_workOrder_13 (by decide) c5 ?_
    refine jw_iload_n dX12_workOrder_16 rfl ?_
    refine jw_iconst dX12_workOrder_17 (v := (1 : Int32)) (by decide) ?_
    refine jw_iadd dX12_workOrder_18 ?_
    refine jw_goto (tgt := 26) dX12_workOrder_19 (by decide) ?_
    refine jw_forget [true, true, false, true, true, true] (L' := [some (.ref x0), some (.int x1), none, none, none, none]) rfl ?_
    exact l_X12_workOrder_b26  hq

theorem c_X12_workOrder {h : jw_H} {x0 : Nat} {x1 : Int32} {r : Int32} {h' : jw_H} (hq : f_X12_workOrder h x0 x1 = some (r, h')) : jw_Con (Cond.code yX12_workOrder cX12_workOrder 6 (some .int)) yX12_workOrder 17 [.ref x0, .int x1] h (.inl (some (.int r))) h' :=
  jw_con false (plainFor_of_name (by decide +kernel)) (fun z => nomatch z) (by simp [jw_ent, jw_sl0_nil, jw_sl0_int, jw_sl0_long, jw_sl0_ref, jw_sl0_rf, jw_sl0_scr, List.replicate]) (by simp [jw_sl0_nil, jw_sl0_int, jw_sl0_long, jw_sl0_ref, jw_sl0_rf, jw_sl0_scr]) (l_X12_workOrder hq)


/-! X12_workLine -/
noncomputable def g_X12_workLine_b63 (h : jw_H) (t0 : Int32) : Option (Int32 × jw_H) :=
 some (t0, h)

noncomputable def g_X12_workLine_b55 (h : jw_H) (x2 : Int32) : Option (Int32 × jw_H) :=
 g_X12_workLine_b63  h x2

noncomputable def g_X12_workLine_b44 (h : jw_H) (x0 : Nat) (x2 : Int32) : Option (Int32 × jw_H) :=
 if 0 < x2 then (g_X12_workLine_b55  h x2)
 else ((jw_gI h 12 (some x0) 71).bind fun v2 =>
 if v2 = 0 then ((jw_rc h 12 (some x0)).bind fun a4 =>
 jw_b2 (f_X12_putWork h a4) fun w6 h5 =>
 g_X12_workLine_b63  h5 w6)
 else (g_X12_workLine_b55  h x2))

noncomputable def g_X12_workLine_b4 (k4 : jw_H → Nat → Int32 → Int32 → Option (Int32 × jw_H)) (h : jw_H) (x0 : Nat) (x1 : Int32) (x2 : Int32) : Option (Int32 × jw_H) :=
 (jw_gI h 12 (some x0) 22).bind fun v1 =>
 if v1 ≤ x1 then (g_X12_workLine_b44  h x0 x2)
 else (if x2 = 0 then ((jw_gI h 12 (some x0) 70).bind fun v4 =>
 if v4 = 0 then (g_X12_workLine_b44  h x0 x2)
 else ((jw_gI h 12 (some x0) 71).bind fun v6 =>
 if v6 = 0 then ((jw_rc h 12 (some x0)).bind fun a8 =>
 jw_b2 (f_X12_workOrder h a8 x1) fun w10 h9 =>
 (jw_gI h9 12 (some x0) 64).bind fun v11 =>
 k4 h9 x0 v11 w10)
 else (g_X12_workLine_b44  h x0 x2)))
 else (g_X12_workLine_b44  h x0 x2))

noncomputable def f_X12_workLine_b4 (n : Nat) : jw_H → Nat → Int32 → Int32 → Option (Int32 × jw_H) :=
 Nat.rec (fun _ _ _ _ => none) (fun _ k4 => g_X12_workLine_b4 k4) n

noncomputable def f_X12_workLine (h : jw_H) (x0 : Nat) : Option (Int32 × jw_H) :=
 f_X12_workLine_b4  jw_FU h x0 (0 : Int32) (0 : Int32)

set_option maxRecDepth 100000 in
set_option maxHeartbeats 4000000 in
theorem l_X12_workLine_b63 {hi : jw_H} {h : jw_H} {t0 : Int32} {r : Int32} {h' : jw_H} (hq : g_X12_workLine_b63  h t0 = some (r, h')) : jw_E 18 uX12_workLine hi 63 [none, none, none] [.int t0] h (.inl (some (.int r))) h' := by
  unfold g_X12_workLine_b63 at hq
  cases hq
  exact jw_iret (ty := .int) dX12_workLine_63 rfl rfl

set_option maxRecDepth 100000 in
set_option maxHeartbeats 4000000 in
theorem l_X12_workLine_b55 {hi : jw_H} {h : jw_H} {x2 : Int32} {r : Int32} {h' : jw_H} (hq : g_X12_workLine_b55  h x2 = some (r, h')) : jw_E 18 uX12_workLine hi 55 [none, none, some (.int x2)] [] h (.inl (some (.int r))) h' := by
  unfold g_X12_workLine_b55 at hq
  refine jw_iload_n dX12_workLine_55 rfl ?_
  refine jw_goto (tgt := 63) dX12_workLine_56 (by decide) ?_
  refine jw_forget [true, true, false] (L' := [none, none, none]) rfl ?_
  exact l_X12_workLine_b63  hq

set_option maxRecDepth 100000 in
set_option maxHeartbeats 4000000 in
theorem l_X12_workLine_b44 {hi : jw_H} {h : jw_H} {x0 : Nat} {x2 : Int32} {r : Int32} {h' : jw_H} (hq : g_X12_workLine_b44  h x0 x2 = some (r, h')) : jw_E 18 uX12_workLine hi 44 [some (.ref x0), none, some (.int x2)] [] h (.inl (some (.int r))) h' := by
  unfold g_X12_workLine_b44 at hq
  refine jw_iload_n dX12_workLine_44 rfl ?_
  rcases jw_if hq with ⟨c1, hq⟩ | ⟨c1, hq⟩
  · refine jw_if_gt_t (tgt := 55) dX12_workLine_45 (by decide) c1 ?_
    refine jw_forget [false, true, true] (L' := [none, none, some (.int x2)]) rfl ?_
    exact l_X12_workLine_b55  hq
  · refine jw_if_gt_f (tgt := 55) dX12_workLine_45 (by decide) c1 ?_
    refine jw_aload_n dX12_workLine_48 (o := (some x0)) rfl ?_
    obtain ⟨v2, ev2, hq⟩ := Option.bind_eq_some_iff.mp hq
    refine jw_getI (o := (some x0)) dX12_workLine_49 ev2 fl_X12_643 rfl ?_
    rcases jw_if hq with ⟨c3, hq⟩ | ⟨c3, hq⟩
    · refine jw_if_eq_t (tgt := 59) dX12_workLine_52 (by decide) c3 ?_
      refine jw_aload_n dX12_workLine_59 (o := (some x0)) rfl ?_
      obtain ⟨a4, ea4, hq⟩ := Option.bind_eq_some_iff.mp hq
      obtain ⟨eoa4, eta4⟩ := jw_rc_spec ea4
      obtain ⟨w6, h5, ew6, hq⟩ := jw_b2_spec hq
      refine jw_callV (As := []) (S := []) (a := a4) (v := some (.int w6)) dX12_workLine_60 mt_X12_putWork in_X12_putWork se_X12_putWork lk_X12_640 (c_X12_putWork ew6) eta4 (by decide) rfl rfl (by decide) (Nat.le_of_ble_eq_true rfl) (by cases eoa4; rfl) ?_
      refine jw_forget [false, true, false] (L' := [none, none, none]) rfl ?_
      exact l_X12_workLine_b63  hq
    · refine jw_if_eq_f (tgt := 59) dX12_workLine_52 (by decide) c3 ?_
      refine jw_forget [false, true, true] (L' := [none, none, some (.int x2)]) rfl ?_
      exact l_X12_workLine_b55  hq

set_option maxRecDepth 100000 in
set_option maxHeartbeats 4000000 in
theorem l_X12_workLine_b4g {hi : jw_H} {k4 : jw_H → Nat → Int32 → Int32 → Option (Int32 × jw_H)} (hk4 : ∀ (h : jw_H) (x0 : Nat) (x1 : Int32) (x2 : Int32) (r : Int32) (h' : jw_H), k4 h x0 x1 x2 = some (r, h') → jw_E 18 uX12_workLine hi 4 [some (.ref x0), some (.int x1), some (.int x2)] [] h (.inl (some (.int r))) h') {h : jw_H} {x0 : Nat} {x1 : Int32} {x2 : Int32} {r : Int32} {h' : jw_H} (hq : g_X12_workLine_b4 k4 h x0 x1 x2 = some (r, h')) : jw_E 18 uX12_workLine hi 4 [some (.ref x0), some (.int x1), some (.int x2)] [] h (.inl (some (.int r))) h' := by
  unfold g_X12_workLine_b4 at hq
  refine jw_iload_n dX12_workLine_4 rfl ?_
  refine jw_aload_n dX12_workLine_5 (o := (some x0)) rfl ?_
  obtain ⟨v1, ev1, hq⟩ := Option.bind_eq_some_iff.mp hq
  refine jw_getI (o := (some x0)) dX12_workLine_6 ev1 fl_X12_146 rfl ?_
  rcases jw_if hq with ⟨c2, hq⟩ | ⟨c2, hq⟩
  · refine jw_icmp_ge_t (tgt := 44) dX12_workLine_9 (by decide) c2 ?_
    refine jw_forget [true, false, true] (L' := [some (.ref x0), none, some (.int x2)]) rfl ?_
    exact l_X12_workLine_b44  hq
  · refine jw_icmp_ge_f (tgt := 44) dX12_workLine_9 (by decide) c2 ?_
    refine jw_iload_n dX12_workLine_12 rfl ?_
    rcases jw_if hq with ⟨c3, hq⟩ | ⟨c3, hq⟩
    · refine jw_if_ne_f (tgt := 44) dX12_workLine_13 (by decide) c3 ?_
      refine jw_aload_n dX12_workLine_16 (o := (some x0)) rfl ?_
      obtain ⟨v4, ev4, hq⟩ := Option.bind_eq_some_iff.mp hq
      refine jw_getI (o := (some x0)) dX12_workLine_17 ev4 fl_X12_557 rfl ?_
      rcases jw_if hq with ⟨c5, hq⟩ | ⟨c5, hq⟩
      · refine jw_if_eq_t (tgt := 44) dX12_workLine_20 (by decide) c5 ?_
        refine jw_forget [true, false, true] (L' := [some (.ref x0), none, some (.int x2)]) rfl ?_
        exact l_X12_workLine_b44  hq
      · refine jw_if_eq_f (tgt := 44) dX12_workLine_20 (by decide) c5 ?_
        refine jw_aload_n dX12_workLine_23 (o := (some x0)) rfl ?_
        obtain ⟨v6, ev6, hq⟩ := Option.bind_eq_some_iff.mp hq
        refine jw_getI (o := (some x0)) dX12_workLine_24 ev6 fl_X12_643 rfl ?_
        rcases jw_if hq with ⟨c7, hq⟩ | ⟨c7, hq⟩
        · refine jw_if_ne_f (tgt := 44) dX12_workLine_27 (by decide) c7 ?_
          refine jw_aload_n dX12_workLine_30 (o := (some x0)) rfl ?_
          refine jw_iload_n dX12_workLine_31 rfl ?_
          obtain ⟨a8, ea8, hq⟩ := Option.bind_eq_some_iff.mp hq
          obtain ⟨eoa8, eta8⟩ := jw_rc_spec ea8
          obtain ⟨w10, h9, ew10, hq⟩ := jw_b2_spec hq
          refine jw_callV (As := [.int x1]) (S := []) (a := a8) (v := some (.int w10)) dX12_workLine_32 mt_X12_workOrder in_X12_workOrder se_X12_workOrder lk_X12_658 (c_X12_workOrder ew10) eta8 (by decide) rfl rfl (by decide) (Nat.le_of_ble_eq_true rfl) (by cases eoa8; rfl) ?_
          refine jw_istore_n (L' := [some (.ref x0), some (.int x1), some (.int w10)]) dX12_workLine_35 (Nat.le_of_ble_eq_true rfl) rfl ?_
          refine jw_aload_n dX12_workLine_36 (o := (some x0)) rfl ?_
          obtain ⟨v11, ev11, hq⟩ := Option.bind_eq_some_iff.mp hq
          refine jw_getI (o := (some x0)) dX12_workLine_37 ev11 fl_X12_506 rfl ?_
          refine jw_istore_n (L' := [some (.ref x0), some (.int v11), some (.int w10)]) dX12_workLine_40 (Nat.le_of_ble_eq_true rfl) rfl ?_
          refine jw_goto (tgt := 4) dX12_workLine_41 (by decide) ?_
          exact hk4 _ _ _ _ _ _ hq
        · refine jw_if_ne_t (tgt := 44) dX12_workLine_27 (by decide) c7 ?_
          refine jw_forget [true, false, true] (L' := [some (.ref x0), none, some (.int x2)]) rfl ?_
          exact l_X12_workLine_b44  hq
    · refine jw_if_ne_t (tgt := 44) dX12_workLine_13 (by decide) c3 ?_
      refine jw_forget [true, false, true] (L' := [some (.ref x0), none, some (.int x2)]) rfl ?_
      exact l_X12_workLine_b44  hq

theorem l_X12_workLine_b4 {hi : jw_H} : ∀ (n : Nat) (h : jw_H) (x0 : Nat) (x1 : Int32) (x2 : Int32) (r : Int32) (h' : jw_H), f_X12_workLine_b4  n h x0 x1 x2 = some (r, h') → jw_E 18 uX12_workLine hi 4 [some (.ref x0), some (.int x1), some (.int x2)] [] h (.inl (some (.int r))) h' := by
  intro n
  induction n with
  | zero => intro h x0 x1 x2 r h' hq; exact nomatch hq
  | succ n ih => intro h x0 x1 x2 r h' hq; exact l_X12_workLine_b4g ih hq

set_option maxRecDepth 100000 in
set_option maxHeartbeats 4000000 in
theorem l_X12_workLine {hi : jw_H} {h : jw_H} {x0 : Nat} {r : Int32} {h' : jw_H} (hq : f_X12_workLine  h x0 = some (r, h')) : jw_E 18 uX12_workLine hi 0 [some (.ref x0), none, none] [] h (.inl (some (.int r))) h' := by
  unfold f_X12_workLine at hq
  refine jw_iconst dX12_workLine_0 (v := (0 : Int32)) (by decide) ?_
  refine jw_istore_n (L' := [some (.ref x0), some (.int (0 : Int32)), none]) dX12_workLine_1 (Nat.le_of_ble_eq_true rfl) rfl ?_
  refine jw_iconst dX12_workLine_2 (v := (0 : Int32)) (by decide) ?_
  refine jw_istore_n (L' := [some (.ref x0), some (.int (0 : Int32)), some (.int (0 : Int32))]) dX12_workLine_3 (Nat.le_of_ble_eq_true rfl) rfl ?_
  exact l_X12_workLine_b4  jw_FU _ _ _ _ _ _ hq

theorem c_X12_workLine {h : jw_H} {x0 : Nat} {r : Int32} {h' : jw_H} (hq : f_X12_workLine h x0 = some (r, h')) : jw_Con (Cond.code yX12_workLine cX12_workLine 3 (some .int)) yX12_workLine 18 [.ref x0] h (.inl (some (.int r))) h' :=
  jw_con false (plainFor_of_name (by decide +kernel)) (fun z => nomatch z) (by simp [jw_ent, jw_sl0_nil, jw_sl0_int, jw_sl0_long, jw_sl0_ref, jw_sl0_rf, jw_sl0_scr, List.replicate]) (by simp [jw_sl0_nil, jw_sl0_int, jw_sl0_long, jw_sl0_ref, jw_sl0_rf, jw_sl0_scr]) (l_X12_workLine hq)


/-! X12_emptyFile -/
noncomputable def f_X12_emptyFile (h : jw_H) (x0 : Nat) (x1 : Int32) : Option (Unit × jw_H) :=
 (jw_gR h 12 (some x0) 21).bind fun v1 =>
 (jw_ai h 20 v1 x1).bind fun v2 =>
 if v2 = (119 : Int32) then ((jw_gR h 12 (some x0) 11).bind fun v4 =>
 (jw_gR h 12 (some x0) 21).bind fun v5 =>
 (jw_ai h 20 v5 (x1 + (1 : Int32))).bind fun v6 =>
 (jw_si h 20 v4 (v6 - (48 : Int32)) (0 : Int32)).bind fun h7 =>
 some ((), h7))
 else (some ((), h))

set_option maxRecDepth 100000 in
set_option maxHeartbeats 4000000 in
theorem l_X12_emptyFile {hi : jw_H} {h : jw_H} {x0 : Nat} {x1 : Int32} {r : Unit} {h' : jw_H} (hq : f_X12_emptyFile  h x0 x1 = some (r, h')) : jw_E 0 uX12_emptyFile hi 0 [some (.ref x0), some (.int x1)] [] h (.inl none) h' := by
  unfold f_X12_emptyFile at hq
  refine jw_aload_n dX12_emptyFile_0 (o := (some x0)) rfl ?_
  obtain ⟨v1, ev1, hq⟩ := Option.bind_eq_some_iff.mp hq
  refine jw_getR (o := (some x0)) dX12_emptyFile_1 ev1 fl_X12_44 rfl ?_
  refine jw_iload_n dX12_emptyFile_4 rfl ?_
  obtain ⟨v2, ev2, hq⟩ := Option.bind_eq_some_iff.mp hq
  refine jw_iald (o := v1) dX12_emptyFile_5 ev2 ?_
  refine jw_bipush dX12_emptyFile_6 (v := (119 : Int32)) (by decide) ?_
  rcases jw_if hq with ⟨c3, hq⟩ | ⟨c3, hq⟩
  · refine jw_icmp_ne_f (tgt := 28) dX12_emptyFile_8 (by decide) c3 ?_
    refine jw_aload_n dX12_emptyFile_11 (o := (some x0)) rfl ?_
    obtain ⟨v4, ev4, hq⟩ := Option.bind_eq_some_iff.mp hq
    refine jw_getR (o := (some x0)) dX12_emptyFile_12 ev4 fl_X12_38 rfl ?_
    refine jw_aload_n dX12_emptyFile_15 (o := (some x0)) rfl ?_
    obtain ⟨v5, ev5, hq⟩ := Option.bind_eq_some_iff.mp hq
    refine jw_getR (o := (some x0)) dX12_emptyFile_16 ev5 fl_X12_44 rfl ?_
    refine jw_iload_n dX12_emptyFile_19 rfl ?_
    refine jw_iconst dX12_emptyFile_20 (v := (1 : Int32)) (by decide) ?_
    refine jw_iadd dX12_emptyFile_21 ?_
    obtain ⟨v6, ev6, hq⟩ := Option.bind_eq_some_iff.mp hq
    refine jw_iald (o := v5) dX12_emptyFile_22 ev6 ?_
    refine jw_bipush dX12_emptyFile_23 (v := (48 : Int32)) (by decide) ?_
    refine jw_isub dX12_emptyFile_25 ?_
    refine jw_iconst dX12_emptyFile_26 (v := (0 : Int32)) (by decide) ?_
    obtain ⟨h7, eh7, hq⟩ := Option.bind_eq_some_iff.mp hq
    refine jw_iast (o := v4) dX12_emptyFile_27 eh7 ?_
    cases hq
    exact jw_vret dX12_emptyFile_28 rfl
  · refine jw_icmp_ne_t (tgt := 28) dX12_emptyFile_8 (by decide) c3 ?_
    cases hq
    exact jw_vret dX12_emptyFile_28 rfl

theorem c_X12_emptyFile {h : jw_H} {x0 : Nat} {x1 : Int32} {r : Unit} {h' : jw_H} (hq : f_X12_emptyFile h x0 x1 = some (r, h')) : jw_Con (Cond.code yX12_emptyFile cX12_emptyFile 2 none) yX12_emptyFile 0 [.ref x0, .int x1] h (.inl none) h' :=
  jw_con false (plainFor_of_name (by decide +kernel)) (fun z => nomatch z) (by simp [jw_ent, jw_sl0_nil, jw_sl0_int, jw_sl0_long, jw_sl0_ref, jw_sl0_rf, jw_sl0_scr, List.replicate]) (by simp [jw_sl0_nil, jw_sl0_int, jw_sl0_long, jw_sl0_ref, jw_sl0_rf, jw_sl0_scr]) (l_X12_emptyFile hq)


/-! X12_emptyInner -/
noncomputable def f_X12_emptyInner (h : jw_H) (x0 : Nat) (x1 : Int32) : Option (Unit × jw_H) :=
 (jw_rc h 12 (some x0)).bind fun a1 =>
 jw_b2 (f_X12_readWhere h a1 x1) fun w3 h2 =>
 (jw_gI h2 12 (some x0) 30).bind fun v4 =>
 (jw_rc h2 12 (some x0)).bind fun a5 =>
 jw_b2 (f_X12_emptyFile h2 a5 v4) fun w7 h6 =>
 some ((), h6)

set_option maxRecDepth 100000 in
set_option maxHeartbeats 4000000 in
theorem l_X12_emptyInner {hi : jw_H} {h : jw_H} {x0 : Nat} {x1 : Int32} {r : Unit} {h' : jw_H} (hq : f_X12_emptyInner  h x0 x1 = some (r, h')) : jw_E 11 uX12_emptyInner hi 0 [some (.ref x0), some (.int x1)] [] h (.inl none) h' := by
  unfold f_X12_emptyInner at hq
  refine jw_aload_n dX12_emptyInner_0 (o := (some x0)) rfl ?_
  refine jw_iload_n dX12_emptyInner_1 rfl ?_
  obtain ⟨a1, ea1, hq⟩ := Option.bind_eq_some_iff.mp hq
  obtain ⟨eoa1, eta1⟩ := jw_rc_spec ea1
  obtain ⟨w3, h2, ew3, hq⟩ := jw_b2_spec hq
  refine jw_callV (As := [.int x1]) (S := []) (a := a1) (v := none) dX12_emptyInner_2 mt_X12_readWhere in_X12_readWhere se_X12_readWhere lk_X12_458 (c_X12_readWhere ew3) eta1 (by decide) rfl rfl (by decide) (Nat.le_of_ble_eq_true rfl) (by cases eoa1; rfl) ?_
  refine jw_aload_n dX12_emptyInner_5 (o := (some x0)) rfl ?_
  refine jw_aload_n dX12_emptyInner_6 (o := (some x0)) rfl ?_
  obtain ⟨v4, ev4, hq⟩ := Option.bind_eq_some_iff.mp hq
  refine jw_getI (o := (some x0)) dX12_emptyInner_7 ev4 fl_X12_218 rfl ?_
  obtain ⟨a5, ea5, hq⟩ := Option.bind_eq_some_iff.mp hq
  obtain ⟨eoa5, eta5⟩ := jw_rc_spec ea5
  obtain ⟨w7, h6, ew7, hq⟩ := jw_b2_spec hq
  refine jw_callV (As := [.int v4]) (S := []) (a := a5) (v := none) dX12_emptyInner_10 mt_X12_emptyFile in_X12_emptyFile se_X12_emptyFile lk_X12_661 (c_X12_emptyFile ew7) eta5 (by decide) rfl rfl (by decide) (Nat.le_of_ble_eq_true rfl) (by cases eoa5; rfl) ?_
  cases hq
  exact jw_vret dX12_emptyInner_13 rfl

theorem c_X12_emptyInner {h : jw_H} {x0 : Nat} {x1 : Int32} {r : Unit} {h' : jw_H} (hq : f_X12_emptyInner h x0 x1 = some (r, h')) : jw_Con (Cond.code yX12_emptyInner cX12_emptyInner 2 none) yX12_emptyInner 11 [.ref x0, .int x1] h (.inl none) h' :=
  jw_con false (plainFor_of_name (by decide +kernel)) (fun z => nomatch z) (by simp [jw_ent, jw_sl0_nil, jw_sl0_int, jw_sl0_long, jw_sl0_ref, jw_sl0_rf, jw_sl0_scr, List.replicate]) (by simp [jw_sl0_nil, jw_sl0_int, jw_sl0_long, jw_sl0_ref, jw_sl0_rf, jw_sl0_scr]) (l_X12_emptyInner hq)


/-! X12_emptyParts -/
noncomputable def g_X12_emptyParts_b64 (k21 : jw_H → Nat → Int32 → Int32 → Int32 → Option (Unit × jw_H)) (h : jw_H) (x0 : Nat) (x1 : Int32) (x2 : Int32) (t0 : Int32) : Option (Unit × jw_H) :=
 k21 h x0 x1 (x2 + (1 : Int32)) t0

noncomputable def g_X12_emptyParts_b63 (k21 : jw_H → Nat → Int32 → Int32 → Int32 → Option (Unit × jw_H)) (h : jw_H) (x0 : Nat) (x1 : Int32) (x2 : Int32) : Option (Unit × jw_H) :=
 g_X12_emptyParts_b64 k21 h x0 x1 x2 (0 : Int32)

noncomputable def g_X12_emptyParts_b21 (k21 : jw_H → Nat → Int32 → Int32 → Int32 → Option (Unit × jw_H)) (h : jw_H) (x0 : Nat) (x1 : Int32) (x2 : Int32) (x3 : Int32) : Option (Unit × jw_H) :=
 if x3 = 0 then (some ((), h))
 else ((jw_rc h 12 (some x0)).bind fun a2 =>
 jw_b2 (f_X12_emptyInner h a2 x2) fun w4 h3 =>
 (jw_rc h3 12 (some x0)).bind fun a5 =>
 jw_b2 (f_X12_endOf h3 a5 x2 (1 : Int32)) fun w7 h6 =>
 (jw_gR h6 12 (some x0) 21).bind fun v8 =>
 (jw_ai h6 20 v8 x1).bind fun v9 =>
 if v9 = (123 : Int32) then ((jw_gR h6 12 (some x0) 21).bind fun v11 =>
 (jw_ai h6 20 v11 w7).bind fun v12 =>
 if v12 = (59 : Int32) then (g_X12_emptyParts_b64 k21 h6 x0 x1 w7 (1 : Int32))
 else (g_X12_emptyParts_b63 k21 h6 x0 x1 w7))
 else (g_X12_emptyParts_b63 k21 h6 x0 x1 w7))

noncomputable def f_X12_emptyParts_b21 (n : Nat) : jw_H → Nat → Int32 → Int32 → Int32 → Option (Unit × jw_H) :=
 Nat.rec (fun _ _ _ _ _ => none) (fun _ k21 => g_X12_emptyParts_b21 k21) n

noncomputable def g_X12_emptyParts_b18 (h : jw_H) (x0 : Nat) (x1 : Int32) (t0 : Int32) : Option (Unit × jw_H) :=
 f_X12_emptyParts_b21  jw_FU h x0 x1 t0 (1 : Int32)

noncomputable def f_X12_emptyParts (h : jw_H) (x0 : Nat) (x1 : Int32) : Option (Unit × jw_H) :=
 (jw_gR h 12 (some x0) 21).bind fun v1 =>
 (jw_ai h 20 v1 x1).bind fun v2 =>
 if v2 = (123 : Int32) then (g_X12_emptyParts_b18  h x0 x1 (x1 + (1 : Int32)))
 else (g_X12_emptyParts_b18  h x0 x1 x1)

set_option maxRecDepth 100000 in
set_option maxHeartbeats 4000000 in
theorem l_X12_emptyParts_b64 {hi : jw_H} {k21 : jw_H → Nat → Int32 → Int32 → Int32 → Option (Unit × jw_H)} (hk21 : ∀ (h : jw_H) (x0 : Nat) (x1 : Int32) (x2 : Int32) (x3 : Int32) (r : Unit) (h' : jw_H), k21 h x0 x1 x2 x3 = some (r, h') → jw_E 14 uX12_emptyParts hi 21 [some (.ref x0), some (.int x1), some (.int x2), some (.int x3)] [] h (.inl none) h') {h : jw_H} {x0 : Nat} {x1 : Int32} {x2 : Int32} {t0 : Int32} {r : Unit} {h' : jw_H} (hq : g_X12_emptyParts_b64 k21 h x0 x1 x2 t0 = some (r, h')) : jw_E 14 uX12_emptyParts hi 64 [some (.ref x0), some (.int x1), some (.int x2), none] [.int t0] h (.inl none) h' := by
  unfold g_X12_emptyParts_b64 at hq
  refine jw_istore_n (L' := [some (.ref x0), some (.int x1), some (.int x2), some (.int t0)]) dX12_emptyParts_64 (Nat.le_of_ble_eq_true rfl) rfl ?_
  refine jw_iinc (L' := [some (.ref x0), some (.int x1), some (.int (x2 + (1 : Int32))), some (.int t0)]) dX12_emptyParts_65 rfl (v := (1 : Int32)) (by decide) (Nat.le_of_ble_eq_true rfl) rfl ?_
  refine jw_goto (tgt := 21) dX12_emptyParts_68 (by decide) ?_
  exact hk21 _ _ _ _ _ _ _ hq

set_option maxRecDepth 100000 in
set_option maxHeartbeats 4000000 in
theorem l_X12_emptyParts_b63 {hi : jw_H} {k21 : jw_H → Nat → Int32 → Int32 → Int32 → Option (Unit × jw_H)} (hk21 : ∀ (h : jw_H) (x0 : Nat) (x1 : Int32) (x2 : Int32) (x3 : Int32) (r : Unit) (h' : jw_H), k21 h x0 x1 x2 x3 = some (r, h') → jw_E 14 uX12_emptyParts hi 21 [some (.ref x0), some (.int x1), some (.int x2), some (.int x3)] [] h (.inl none) h') {h : jw_H} {x0 : Nat} {x1 : Int32} {x2 : Int32} {r : Unit} {h' : jw_H} (hq : g_X12_emptyParts_b63 k21 h x0 x1 x2 = some (r, h')) : jw_E 14 uX12_emptyParts hi 63 [some (.ref x0), some (.int x1), some (.int x2), none] [] h (.inl none) h' := by
  unfold g_X12_emptyParts_b63 at hq
  refine jw_iconst dX12_emptyParts_63 (v := (0 : Int32)) (by decide) ?_
  exact l_X12_emptyParts_b64 hk21 hq

set_option maxRecDepth 100000 in
set_option maxHeartbeats 4000000 in
theorem l_X12_emptyParts_b21g {hi : jw_H} {k21 : jw_H → Nat → Int32 → Int32 → Int32 → Option (Unit × jw_H)} (hk21 : ∀ (h : jw_H) (x0 : Nat) (x1 : Int32) (x2 : Int32) (x3 : Int32) (r : Unit) (h' : jw_H), k21 h x0 x1 x2 x3 = some (r, h') → jw_E 14 uX12_emptyParts hi 21 [some (.ref x0), some (.int x1), some (.int x2), some (.int x3)] [] h (.inl none) h') {h : jw_H} {x0 : Nat} {x1 : Int32} {x2 : Int32} {x3 : Int32} {r : Unit} {h' : jw_H} (hq : g_X12_emptyParts_b21 k21 h x0 x1 x2 x3 = some (r, h')) : jw_E 14 uX12_emptyParts hi 21 [some (.ref x0), some (.int x1), some (.int x2), some (.int x3)] [] h (.inl none) h' := by
  unfold g_X12_emptyParts_b21 at hq
  refine jw_iload_n dX12_emptyParts_21 rfl ?_
  rcases jw_if hq with ⟨c1, hq⟩ | ⟨c1, hq⟩
  · refine jw_if_eq_t (tgt := 71) dX12_emptyParts_22 (by decide) c1 ?_
    cases hq
    exact jw_vret dX12_emptyParts_71 rfl
  · refine jw_if_eq_f (tgt := 71) dX12_emptyParts_22 (by decide) c1 ?_
    refine jw_aload_n dX12_emptyParts_25 (o := (some x0)) rfl ?_
    refine jw_iload_n dX12_emptyParts_26 rfl ?_
    obtain ⟨a2, ea2, hq⟩ := Option.bind_eq_some_iff.mp hq
    obtain ⟨eoa2, eta2⟩ := jw_rc_spec ea2
    obtain ⟨w4, h3, ew4, hq⟩ := jw_b2_spec hq
    refine jw_callV (As := [.int x2]) (S := []) (a := a2) (v := none) dX12_emptyParts_27 mt_X12_emptyInner in_X12_emptyInner se_X12_emptyInner lk_X12_664 (c_X12_emptyInner ew4) eta2 (by decide) rfl rfl (by decide) (Nat.le_of_ble_eq_true rfl) (by cases eoa2; rfl) ?_
    refine jw_aload_n dX12_emptyParts_30 (o := (some x0)) rfl ?_
    refine jw_iload_n dX12_emptyParts_31 rfl ?_
    refine jw_iconst dX12_emptyParts_32 (v := (1 : Int32)) (by decide) ?_
    obtain ⟨a5, ea5, hq⟩ := Option.bind_eq_some_iff.mp hq
    obtain ⟨eoa5, eta5⟩ := jw_rc_spec ea5
    obtain ⟨w7, h6, ew7, hq⟩ := jw_b2_spec hq
    refine jw_callV (As := [.int x2, .int (1 : Int32)]) (S := []) (a := a5) (v := some (.int w7)) dX12_emptyParts_33 mt_X12_endOf in_X12_endOf se_X12_endOf lk_X12_470 (c_X12_endOf ew7) eta5 (by decide) rfl rfl (by decide) (Nat.le_of_ble_eq_true rfl) (by cases eoa5; rfl) ?_
    refine jw_istore_n (L' := [some (.ref x0), some (.int x1), some (.int w7), some (.int x3)]) dX12_emptyParts_36 (Nat.le_of_ble_eq_true rfl) rfl ?_
    refine jw_aload_n dX12_emptyParts_37 (o := (some x0)) rfl ?_
    obtain ⟨v8, ev8, hq⟩ := Option.bind_eq_some_iff.mp hq
    refine jw_getR (o := (some x0)) dX12_emptyParts_38 ev8 fl_X12_44 rfl ?_
    refine jw_iload_n dX12_emptyParts_41 rfl ?_
    obtain ⟨v9, ev9, hq⟩ := Option.bind_eq_some_iff.mp hq
    refine jw_iald (o := v8) dX12_emptyParts_42 ev9 ?_
    refine jw_bipush dX12_emptyParts_43 (v := (123 : Int32)) (by decide) ?_
    rcases jw_if hq with ⟨c10, hq⟩ | ⟨c10, hq⟩
    · refine jw_icmp_ne_f (tgt := 63) dX12_emptyParts_45 (by decide) c10 ?_
      refine jw_aload_n dX12_emptyParts_48 (o := (some x0)) rfl ?_
      obtain ⟨v11, ev11, hq⟩ := Option.bind_eq_some_iff.mp hq
      refine jw_getR (o := (some x0)) dX12_emptyParts_49 ev11 fl_X12_44 rfl ?_
      refine jw_iload_n dX12_emptyParts_52 rfl ?_
      obtain ⟨v12, ev12, hq⟩ := Option.bind_eq_some_iff.mp hq
      refine jw_iald (o := v11) dX12_emptyParts_53 ev12 ?_
      refine jw_bipush dX12_emptyParts_54 (v := (59 : Int32)) (by decide) ?_
      rcases jw_if hq with ⟨c13, hq⟩ | ⟨c13, hq⟩
      · refine jw_icmp_ne_f (tgt := 63) dX12_emptyParts_56 (by decide) c13 ?_
        refine jw_iconst dX12_emptyParts_59 (v := (1 : Int32)) (by decide) ?_
        refine jw_goto (tgt := 64) dX12_emptyParts_60 (by decide) ?_
        refine jw_forget [true, true, true, false] (L' := [some (.ref x0), some (.int x1), some (.int w7), none]) rfl ?_
        exact l_X12_emptyParts_b64 hk21 hq
      · refine jw_icmp_ne_t (tgt := 63) dX12_emptyParts_56 (by decide) c13 ?_
        refine jw_forget [true, true, true, false] (L' := [some (.ref x0), some (.int x1), some (.int w7), none]) rfl ?_
        exact l_X12_emptyParts_b63 hk21 hq
    · refine jw_icmp_ne_t (tgt := 63) dX12_emptyParts_45 (by decide) c10 ?_
      refine jw_forget [true, true, true, false] (L' := [some (.ref x0), some (.int x1), some (.int w7), none]) rfl ?_
      exact l_X12_emptyParts_b63 hk21 hq

theorem l_X12_emptyParts_b21 {hi : jw_H} : ∀ (n : Nat) (h : jw_H) (x0 : Nat) (x1 : Int32) (x2 : Int32) (x3 : Int32) (r : Unit) (h' : jw_H), f_X12_emptyParts_b21  n h x0 x1 x2 x3 = some (r, h') → jw_E 14 uX12_emptyParts hi 21 [some (.ref x0), some (.int x1), some (.int x2), some (.int x3)] [] h (.inl none) h' := by
  intro n
  induction n with
  | zero => intro h x0 x1 x2 x3 r h' hq; exact nomatch hq
  | succ n ih => intro h x0 x1 x2 x3 r h' hq; exact l_X12_emptyParts_b21g ih hq

set_option maxRecDepth 100000 in
set_option maxHeartbeats 4000000 in
theorem l_X12_emptyParts_b18 {hi : jw_H} {h : jw_H} {x0 : Nat} {x1 : Int32} {t0 : Int32} {r : Unit} {h' : jw_H} (hq : g_X12_emptyParts_b18  h x0 x1 t0 = some (r, h')) : jw_E 14 uX12_emptyParts hi 18 [some (.ref x0), some (.int x1), none, none] [.int t0] h (.inl none) h' := by
  unfold g_X12_emptyParts_b18 at hq
  refine jw_istore_n (L' := [some (.ref x0), some (.int x1), some (.int t0), none]) dX12_emptyParts_18 (Nat.le_of_ble_eq_true rfl) rfl ?_
  refine jw_iconst dX12_emptyParts_19 (v := (1 : Int32)) (by decide) ?_
  refine jw_istore_n (L' := [some (.ref x0), some (.int x1), some (.int t0), some (.int (1 : Int32))]) dX12_emptyParts_20 (Nat.le_of_ble_eq_true rfl) rfl ?_
  exact l_X12_emptyParts_b21  jw_FU _ _ _ _ _ _ _ hq

set_option maxRecDepth 100000 in
set_option maxHeartbeats 4000000 in
theorem l_X12_emptyParts {hi : jw_H} {h : jw_H} {x0 : Nat} {x1 : Int32} {r : Unit} {h' : jw_H} (hq : f_X12_emptyParts  h x0 x1 = some (r, h')) : jw_E 14 uX12_emptyParts hi 0 [some (.ref x0), some (.int x1), none, none] [] h (.inl none) h' := by
  unfold f_X12_emptyParts at hq
  refine jw_aload_n dX12_emptyParts_0 (o := (some x0)) rfl ?_
  obtain ⟨v1, ev1, hq⟩ := Option.bind_eq_some_iff.mp hq
  refine jw_getR (o := (some x0)) dX12_emptyParts_1 ev1 fl_X12_44 rfl ?_
  refine jw_iload_n dX12_emptyParts_4 rfl ?_
  obtain ⟨v2, ev2, hq⟩ := Option.bind_eq_some_iff.mp hq
  refine jw_iald (o := v1) dX12_emptyParts_5 ev2 ?_
  refine jw_bipush dX12_emptyParts_6 (v := (123 : Int32)) (by decide) ?_
  rcases jw_if hq with ⟨c3, hq⟩ | ⟨c3, hq⟩
  · refine jw_icmp_ne_f (tgt := 17) dX12_emptyParts_8 (by decide) c3 ?_
    refine jw_iload_n dX12_emptyParts_11 rfl ?_
    refine jw_iconst dX12_emptyParts_12 (v := (1 : Int32)) (by decide) ?_
    refine jw_iadd dX12_emptyParts_13 ?_
    refine jw_goto (tgt := 18) dX12_emptyParts_14 (by decide) ?_
    exact l_X12_emptyParts_b18  hq
  · refine jw_icmp_ne_t (tgt := 17) dX12_emptyParts_8 (by decide) c3 ?_
    refine jw_iload_n dX12_emptyParts_17 rfl ?_
    exact l_X12_emptyParts_b18  hq

theorem c_X12_emptyParts {h : jw_H} {x0 : Nat} {x1 : Int32} {r : Unit} {h' : jw_H} (hq : f_X12_emptyParts h x0 x1 = some (r, h')) : jw_Con (Cond.code yX12_emptyParts cX12_emptyParts 4 none) yX12_emptyParts 14 [.ref x0, .int x1] h (.inl none) h' :=
  jw_con false (plainFor_of_name (by decide +kernel)) (fun z => nomatch z) (by simp [jw_ent, jw_sl0_nil, jw_sl0_int, jw_sl0_long, jw_sl0_ref, jw_sl0_rf, jw_sl0_scr, List.replicate]) (by simp [jw_sl0_nil, jw_sl0_int, jw_sl0_long, jw_sl0_ref, jw_sl0_rf, jw_sl0_scr]) (l_X12_emptyParts hq)


/-! X12_emptyFiles -/
noncomputable def g_X12_emptyFiles_b88 (k2 : jw_H → Nat → Int32 → Option (Unit × jw_H)) (h : jw_H) (x0 : Nat) (x1 : Int32) : Option (Unit × jw_H) :=
 (jw_rc h 12 (some x0)).bind fun a1 =>
 jw_b2 (f_X12_endOf h a1 x1 (0 : Int32)) fun w3 h2 =>
 k2 h2 x0 (w3 + (1 : Int32))

noncomputable def g_X12_emptyFiles_b42 (k2 : jw_H → Nat → Int32 → Option (Unit × jw_H)) (h : jw_H) (x0 : Nat) (x1 : Int32) (x2 : Int32) : Option (Unit × jw_H) :=
 (jw_rc h 12 (some x0)).bind fun a1 =>
 jw_b2 (f_X12_compile h a1 (x2 + (2 : Int32)) (47 : Int32)) fun w3 h2 =>
 (jw_gI h2 12 (some x0) 37).bind fun v4 =>
 (jw_rc h2 12 (some x0)).bind fun a5 =>
 jw_b2 (f_X12_emptyParts h2 a5 (v4 + (1 : Int32))) fun w7 h6 =>
 g_X12_emptyFiles_b88 k2 h6 x0 x1

noncomputable def g_X12_emptyFiles_b2 (k2 : jw_H → Nat → Int32 → Option (Unit × jw_H)) (h : jw_H) (x0 : Nat) (x1 : Int32) : Option (Unit × jw_H) :=
 (jw_gI h 12 (some x0) 22).bind fun v1 =>
 if v1 ≤ x1 then (some ((), h))
 else ((jw_rc h 12 (some x0)).bind fun a3 =>
 jw_b2 (f_X12_readWhere h a3 x1) fun w5 h4 =>
 (jw_gI h4 12 (some x0) 30).bind fun v6 =>
 (jw_gR h4 12 (some x0) 21).bind fun v7 =>
 (jw_ai h4 20 v7 v6).bind fun v8 =>
 if v8 = (103 : Int32) then (g_X12_emptyFiles_b42 k2 h4 x0 x1 v6)
 else ((jw_gR h4 12 (some x0) 21).bind fun v10 =>
 (jw_ai h4 20 v10 v6).bind fun v11 =>
 if v11 = (71 : Int32) then (g_X12_emptyFiles_b42 k2 h4 x0 x1 v6)
 else ((jw_gR h4 12 (some x0) 21).bind fun v13 =>
 (jw_ai h4 20 v13 v6).bind fun v14 =>
 if v14 = (123 : Int32) then ((jw_rc h4 12 (some x0)).bind fun a19 =>
 jw_b2 (f_X12_emptyParts h4 a19 v6) fun w21 h20 =>
 g_X12_emptyFiles_b88 k2 h20 x0 x1)
 else ((jw_rc h4 12 (some x0)).bind fun a16 =>
 jw_b2 (f_X12_emptyFile h4 a16 v6) fun w18 h17 =>
 g_X12_emptyFiles_b88 k2 h17 x0 x1))))

noncomputable def f_X12_emptyFiles_b2 (n : Nat) : jw_H → Nat → Int32 → Option (Unit × jw_H) :=
 Nat.rec (fun _ _ _ => none) (fun _ k2 => g_X12_emptyFiles_b2 k2) n

noncomputable def f_X12_emptyFiles (h : jw_H) (x0 : Nat) : Option (Unit × jw_H) :=
 f_X12_emptyFiles_b2  jw_FU h x0 (0 : Int32)

set_option maxRecDepth 100000 in
set_option maxHeartbeats 4000000 in
theorem l_X12_emptyFiles_b88 {hi : jw_H} {k2 : jw_H → Nat → Int32 → Option (Unit × jw_H)} (hk2 : ∀ (h : jw_H) (x0 : Nat) (x1 : Int32) (r : Unit) (h' : jw_H), k2 h x0 x1 = some (r, h') → jw_E 15 uX12_emptyFiles hi 2 [some (.ref x0), some (.int x1), none] [] h (.inl none) h') {h : jw_H} {x0 : Nat} {x1 : Int32} {r : Unit} {h' : jw_H} (hq : g_X12_emptyFiles_b88 k2 h x0 x1 = some (r, h')) : jw_E 15 uX12_emptyFiles hi 88 [some (.ref x0), some (.int x1), none] [] h (.inl none) h' := by
  unfold g_X12_emptyFiles_b88 at hq
  refine jw_aload_n dX12_emptyFiles_88 (o := (some x0)) rfl ?_
  refine jw_iload_n dX12_emptyFiles_89 rfl ?_
  refine jw_iconst dX12_emptyFiles_90 (v := (0 : Int32)) (by decide) ?_
  obtain ⟨a1, ea1, hq⟩ := Option.bind_eq_some_iff.mp hq
  obtain ⟨eoa1, eta1⟩ := jw_rc_spec ea1
  obtain ⟨w3, h2, ew3, hq⟩ := jw_b2_spec hq
  refine jw_callV (As := [.int x1, .int (0 : Int32)]) (S := []) (a := a1) (v := some (.int w3)) dX12_emptyFiles_91 mt_X12_endOf in_X12_endOf se_X12_endOf lk_X12_470 (c_X12_endOf ew3) eta1 (by decide) rfl rfl (by decide) (Nat.le_of_ble_eq_true rfl) (by cases eoa1; rfl) ?_
  refine jw_iconst dX12_emptyFiles_94 (v := (1 : Int32)) (by decide) ?_
  refine jw_iadd dX12_emptyFiles_95 ?_
  refine jw_istore_n (L' := [some (.ref x0), some (.int (w3 + (1 : Int32))), none]) dX12_emptyFiles_96 (Nat.le_of_ble_eq_true rfl) rfl ?_
  refine jw_goto (tgt := 2) dX12_emptyFiles_97 (by decide) ?_
  exact hk2 _ _ _ _ _ hq

set_option maxRecDepth 100000 in
set_option maxHeartbeats 4000000 in
theorem l_X12_emptyFiles_b42 {hi : jw_H} {k2 : jw_H → Nat → Int32 → Option (Unit × jw_H)} (hk2 : ∀ (h : jw_H) (x0 : Nat) (x1 : Int32) (r : Unit) (h' : jw_H), k2 h x0 x1 = some (r, h') → jw_E 15 uX12_emptyFiles hi 2 [some (.ref x0), some (.int x1), none] [] h (.inl none) h') {h : jw_H} {x0 : Nat} {x1 : Int32} {x2 : Int32} {r : Unit} {h' : jw_H} (hq : g_X12_emptyFiles_b42 k2 h x0 x1 x2 = some (r, h')) : jw_E 15 uX12_emptyFiles hi 42 [some (.ref x0), some (.int x1), some (.int x2)] [] h (.inl none) h' := by
  unfold g_X12_emptyFiles_b42 at hq
  refine jw_aload_n dX12_emptyFiles_42 (o := (some x0)) rfl ?_
  refine jw_iload_n dX12_emptyFiles_43 rfl ?_
  refine jw_iconst dX12_emptyFiles_44 (v := (2 : Int32)) (by decide) ?_
  refine jw_iadd dX12_emptyFiles_45 ?_
  refine jw_bipush dX12_emptyFiles_46 (v := (47 : Int32)) (by decide) ?_
  obtain ⟨a1, ea1, hq⟩ := Option.bind_eq_some_iff.mp hq
  obtain ⟨eoa1, eta1⟩ := jw_rc_spec ea1
  obtain ⟨w3, h2, ew3, hq⟩ := jw_b2_spec hq
  refine jw_callV (As := [.int (x2 + (2 : Int32)), .int (47 : Int32)]) (S := []) (a := a1) (v := none) dX12_emptyFiles_48 mt_X12_compile in_X12_compile se_X12_compile lk_X12_310 (c_X12_compile ew3) eta1 (by decide) rfl rfl (by decide) (Nat.le_of_ble_eq_true rfl) (by cases eoa1; rfl) ?_
  refine jw_aload_n dX12_emptyFiles_51 (o := (some x0)) rfl ?_
  refine jw_aload_n dX12_emptyFiles_52 (o := (some x0)) rfl ?_
  obtain ⟨v4, ev4, hq⟩ := Option.bind_eq_some_iff.mp hq
  refine jw_getI (o := (some x0)) dX12_emptyFiles_53 ev4 fl_X12_268 rfl ?_
  refine jw_iconst dX12_emptyFiles_56 (v := (1 : Int32)) (by decide) ?_
  refine jw_iadd dX12_emptyFiles_57 ?_
  obtain ⟨a5, ea5, hq⟩ := Option.bind_eq_some_iff.mp hq
  obtain ⟨eoa5, eta5⟩ := jw_rc_spec ea5
  obtain ⟨w7, h6, ew7, hq⟩ := jw_b2_spec hq
  refine jw_callV (As := [.int (v4 + (1 : Int32))]) (S := []) (a := a5) (v := none) dX12_emptyFiles_58 mt_X12_emptyParts in_X12_emptyParts se_X12_emptyParts lk_X12_667 (c_X12_emptyParts ew7) eta5 (by decide) rfl rfl (by decide) (Nat.le_of_ble_eq_true rfl) (by cases eoa5; rfl) ?_
  refine jw_goto (tgt := 88) dX12_emptyFiles_61 (by decide) ?_
  refine jw_forget [true, true, false] (L' := [some (.ref x0), some (.int x1), none]) rfl ?_
  exact l_X12_emptyFiles_b88 hk2 hq

set_option maxRecDepth 100000 in
set_option maxHeartbeats 4000000 in
theorem l_X12_emptyFiles_b2g {hi : jw_H} {k2 : jw_H → Nat → Int32 → Option (Unit × jw_H)} (hk2 : ∀ (h : jw_H) (x0 : Nat) (x1 : Int32) (r : Unit) (h' : jw_H), k2 h x0 x1 = some (r, h') → jw_E 15 uX12_emptyFiles hi 2 [some (.ref x0), some (.int x1), none] [] h (.inl none) h') {h : jw_H} {x0 : Nat} {x1 : Int32} {r : Unit} {h' : jw_H} (hq : g_X12_emptyFiles_b2 k2 h x0 x1 = some (r, h')) : jw_E 15 uX12_emptyFiles hi 2 [some (.ref x0), some (.int x1), none] [] h (.inl none) h' := by
  unfold g_X12_emptyFiles_b2 at hq
  refine jw_iload_n dX12_emptyFiles_2 rfl ?_
  refine jw_aload_n dX12_emptyFiles_3 (o := (some x0)) rfl ?_
  obtain ⟨v1, ev1, hq⟩ := Option.bind_eq_some_iff.mp hq
  refine jw_getI (o := (some x0)) dX12_emptyFiles_4 ev1 fl_X12_146 rfl ?_
  rcases jw_if hq with ⟨c2, hq⟩ | ⟨c2, hq⟩
  · refine jw_icmp_ge_t (tgt := 100) dX12_emptyFiles_7 (by decide) c2 ?_
    cases hq
    exact jw_vret dX12_emptyFiles_100 rfl
  · refine jw_icmp_ge_f (tgt := 100) dX12_emptyFiles_7 (by decide) c2 ?_
    refine jw_aload_n dX12_emptyFiles_10 (o := (some x0)) rfl ?_
    refine jw_iload_n dX12_emptyFiles_11 rfl ?_
    obtain ⟨a3, ea3, hq⟩ := Option.bind_eq_some_iff.mp hq
    obtain ⟨eoa3, eta3⟩ := jw_rc_spec ea3
    obtain ⟨w5, h4, ew5, hq⟩ := jw_b2_spec hq
    refine jw_callV (As := [.int x1]) (S := []) (a := a3) (v := none) dX12_emptyFiles_12 mt_X12_readWhere in_X12_readWhere se_X12_readWhere lk_X12_458 (c_X12_readWhere ew5) eta3 (by decide) rfl rfl (by decide) (Nat.le_of_ble_eq_true rfl) (by cases eoa3; rfl) ?_
    refine jw_aload_n dX12_emptyFiles_15 (o := (some x0)) rfl ?_
    obtain ⟨v6, ev6, hq⟩ := Option.bind_eq_some_iff.mp hq
    refine jw_getI (o := (some x0)) dX12_emptyFiles_16 ev6 fl_X12_218 rfl ?_
    refine jw_istore_n (L' := [some (.ref x0), some (.int x1), some (.int v6)]) dX12_emptyFiles_19 (Nat.le_of_ble_eq_true rfl) rfl ?_
    refine jw_aload_n dX12_emptyFiles_20 (o := (some x0)) rfl ?_
    obtain ⟨v7, ev7, hq⟩ := Option.bind_eq_some_iff.mp hq
    refine jw_getR (o := (some x0)) dX12_emptyFiles_21 ev7 fl_X12_44 rfl ?_
    refine jw_iload_n dX12_emptyFiles_24 rfl ?_
    obtain ⟨v8, ev8, hq⟩ := Option.bind_eq_some_iff.mp hq
    refine jw_iald (o := v7) dX12_emptyFiles_25 ev8 ?_
    refine jw_bipush dX12_emptyFiles_26 (v := (103 : Int32)) (by decide) ?_
    rcases jw_if hq with ⟨c9, hq⟩ | ⟨c9, hq⟩
    · refine jw_icmp_eq_t (tgt := 42) dX12_emptyFiles_28 (by decide) c9 ?_
      exact l_X12_emptyFiles_b42 hk2 hq
    · refine jw_icmp_eq_f (tgt := 42) dX12_emptyFiles_28 (by decide) c9 ?_
      refine jw_aload_n dX12_emptyFiles_31 (o := (some x0)) rfl ?_
      obtain ⟨v10, ev10, hq⟩ := Option.bind_eq_some_iff.mp hq
      refine jw_getR (o := (some x0)) dX12_emptyFiles_32 ev10 fl_X12_44 rfl ?_
      refine jw_iload_n dX12_emptyFiles_35 rfl ?_
      obtain ⟨v11, ev11, hq⟩ := Option.bind_eq_some_iff.mp hq
      refine jw_iald (o := v10) dX12_emptyFiles_36 ev11 ?_
      refine jw_bipush dX12_emptyFiles_37 (v := (71 : Int32)) (by decide) ?_
      rcases jw_if hq with ⟨c12, hq⟩ | ⟨c12, hq⟩
      · refine jw_icmp_ne_f (tgt := 64) dX12_emptyFiles_39 (by decide) c12 ?_
        exact l_X12_emptyFiles_b42 hk2 hq
      · refine jw_icmp_ne_t (tgt := 64) dX12_emptyFiles_39 (by decide) c12 ?_
        refine jw_aload_n dX12_emptyFiles_64 (o := (some x0)) rfl ?_
        obtain ⟨v13, ev13, hq⟩ := Option.bind_eq_some_iff.mp hq
        refine jw_getR (o := (some x0)) dX12_emptyFiles_65 ev13 fl_X12_44 rfl ?_
        refine jw_iload_n dX12_emptyFiles_68 rfl ?_
        obtain ⟨v14, ev14, hq⟩ := Option.bind_eq_some_iff.mp hq
        refine jw_iald (o := v13) dX12_emptyFiles_69 ev14 ?_
        refine jw_bipush dX12_emptyFiles_70 (v := (123 : Int32)) (by decide) ?_
        rcases jw_if hq with ⟨c15, hq⟩ | ⟨c15, hq⟩
        · refine jw_icmp_ne_f (tgt := 83) dX12_emptyFiles_72 (by decide) c15 ?_
          refine jw_aload_n dX12_emptyFiles_75 (o := (some x0)) rfl ?_
          refine jw_iload_n dX12_emptyFiles_76 rfl ?_
          obtain ⟨a19, ea19, hq⟩ := Option.bind_eq_some_iff.mp hq
          obtain ⟨eoa19, eta19⟩ := jw_rc_spec ea19
          obtain ⟨w21, h20, ew21, hq⟩ := jw_b2_spec hq
          refine jw_callV (As := [.int v6]) (S := []) (a := a19) (v := none) dX12_emptyFiles_77 mt_X12_emptyParts in_X12_emptyParts se_X12_emptyParts lk_X12_667 (c_X12_emptyParts ew21) eta19 (by decide) rfl rfl (by decide) (Nat.le_of_ble_eq_true rfl) (by cases eoa19; rfl) ?_
          refine jw_goto (tgt := 88) dX12_emptyFiles_80 (by decide) ?_
          refine jw_forget [true, true, false] (L' := [some (.ref x0), some (.int x1), none]) rfl ?_
          exact l_X12_emptyFiles_b88 hk2 hq
        · refine jw_icmp_ne_t (tgt := 83) dX12_emptyFiles_72 (by decide) c15 ?_
          refine jw_aload_n dX12_emptyFiles_83 (o := (some x0)) rfl ?_
          refine jw_iload_n dX12_emptyFiles_84 rfl ?_
          obtain ⟨a16, ea16, hq⟩ := Option.bind_eq_some_iff.mp hq
          obtain ⟨eoa16, eta16⟩ := jw_rc_spec ea16
          obtain ⟨w18, h17, ew18, hq⟩ := jw_b2_spec hq
          refine jw_callV (As := [.int v6]) (S := []) (a := a16) (v := none) dX12_emptyFiles_85 mt_X12_emptyFile in_X12_emptyFile se_X12_emptyFile lk_X12_661 (c_X12_emptyFile ew18) eta16 (by decide) rfl rfl (by decide) (Nat.le_of_ble_eq_true rfl) (by cases eoa16; rfl) ?_
          refine jw_forget [true, true, false] (L' := [some (.ref x0), some (.int x1), none]) rfl ?_
          exact l_X12_emptyFiles_b88 hk2 hq

theorem l_X12_emptyFiles_b2 {hi : jw_H} : ∀ (n : Nat) (h : jw_H) (x0 : Nat) (x1 : Int32) (r : Unit) (h' : jw_H), f_X12_emptyFiles_b2  n h x0 x1 = some (r, h') → jw_E 15 uX12_emptyFiles hi 2 [some (.ref x0), some (.int x1), none] [] h (.inl none) h' := by
  intro n
  induction n with
  | zero => intro h x0 x1 r h' hq; exact nomatch hq
  | succ n ih => intro h x0 x1 r h' hq; exact l_X12_emptyFiles_b2g ih hq

set_option maxRecDepth 100000 in
set_option maxHeartbeats 4000000 in
theorem l_X12_emptyFiles {hi : jw_H} {h : jw_H} {x0 : Nat} {r : Unit} {h' : jw_H} (hq : f_X12_emptyFiles  h x0 = some (r, h')) : jw_E 15 uX12_emptyFiles hi 0 [some (.ref x0), none, none] [] h (.inl none) h' := by
  unfold f_X12_emptyFiles at hq
  refine jw_iconst dX12_emptyFiles_0 (v := (0 : Int32)) (by decide) ?_
  refine jw_istore_n (L' := [some (.ref x0), some (.int (0 : Int32)), none]) dX12_emptyFiles_1 (Nat.le_of_ble_eq_true rfl) rfl ?_
  exact l_X12_emptyFiles_b2  jw_FU _ _ _ _ _ hq

theorem c_X12_emptyFiles {h : jw_H} {x0 : Nat} {r : Unit} {h' : jw_H} (hq : f_X12_emptyFiles h x0 = some (r, h')) : jw_Con (Cond.code yX12_emptyFiles cX12_emptyFiles 3 none) yX12_emptyFiles 15 [.ref x0] h (.inl none) h' :=
  jw_con false (plainFor_of_name (by decide +kernel)) (fun z => nomatch z) (by simp [jw_ent, jw_sl0_nil, jw_sl0_int, jw_sl0_long, jw_sl0_ref, jw_sl0_rf, jw_sl0_scr, List.replicate]) (by simp [jw_sl0_nil, jw_sl0_int, jw_sl0_long, jw_sl0_ref, jw_sl0_rf, jw_sl0_scr]) (l_X12_emptyFiles hq)


/-! X12_becomeNew -/
noncomputable def g_X12_becomeNew_b91 (k49 : jw_H → Nat → Int32 → Option (Unit × jw_H)) (h : jw_H) (x0 : Nat) (x1 : Int32) (t0 : Option Nat) (t1 : Int32) (t2 : Int32) : Option (Unit × jw_H) :=
 (jw_si h 20 t0 t1 t2).bind fun h1 =>
 k49 h1 x0 (x1 + (1 : Int32))

noncomputable def g_X12_becomeNew_b90 (k49 : jw_H → Nat → Int32 → Option (Unit × jw_H)) (h : jw_H) (x0 : Nat) (x1 : Int32) (t0 : Option Nat) (t1 : Int32) : Option (Unit × jw_H) :=
 g_X12_becomeNew_b91 k49 h x0 x1 t0 t1 (-1 : Int32)

noncomputable def g_X12_becomeNew_b49 (k49 : jw_H → Nat → Int32 → Option (Unit × jw_H)) (h : jw_H) (x0 : Nat) (x1 : Int32) : Option (Unit × jw_H) :=
 if (5 : Int32) ≤ x1 then ((jw_gI h 12 (some x0) 12).bind fun v2 =>
 (jw_pI h 12 (some x0) 16 v2).bind fun h3 =>
 some ((), h3))
 else ((jw_gR h 12 (some x0) 10).bind fun v4 =>
 (jw_gR h 12 (some x0) 10).bind fun v5 =>
 (jw_ai h 20 v5 x1).bind fun v6 =>
 if v6 < 0 then (g_X12_becomeNew_b90 k49 h x0 x1 v4 x1)
 else ((jw_gR h 12 (some x0) 10).bind fun v8 =>
 (jw_ai h 20 v8 x1).bind fun v9 =>
 (jw_rc h 12 (some x0)).bind fun a10 =>
 jw_b2 (f_X12_lineWith h a10 v9) fun w12 h11 =>
 if w12 ≤ 0 then (g_X12_becomeNew_b90 k49 h11 x0 x1 v4 x1)
 else ((jw_gR h11 12 (some x0) 10).bind fun v14 =>
 (jw_ai h11 20 v14 x1).bind fun v15 =>
 g_X12_becomeNew_b91 k49 h11 x0 x1 v4 x1 v15)))

noncomputable def f_X12_becomeNew_b49 (n : Nat) : jw_H → Nat → Int32 → Option (Unit × jw_H) :=
 Nat.rec (fun _ _ _ => none) (fun _ k49 => g_X12_becomeNew_b49 k49) n

noncomputable def g_X12_becomeNew_b10 (k10 : jw_H → Nat → Int32 → Option (Unit × jw_H)) (h : jw_H) (x0 : Nat) (x1 : Int32) : Option (Unit × jw_H) :=
 (jw_gI h 12 (some x0) 13).bind fun v1 =>
 if v1 ≤ x1 then (f_X12_becomeNew_b49  jw_FU h x0 (0 : Int32))
 else ((jw_rc h 12 (some x0)).bind fun a3 =>
 jw_b2 (f_X12_copyRow h a3 ((41 : Int32) + x1) ((0 : Int32) + x1)) fun w5 h4 =>
 (jw_gR h4 12 (some x0) 7).bind fun v6 =>
 (jw_gR h4 12 (some x0) 8).bind fun v7 =>
 (jw_ai h4 20 v7 x1).bind fun v8 =>
 (jw_si h4 20 v6 x1 v8).bind fun h9 =>
 k10 h9 x0 (x1 + (1 : Int32)))

noncomputable def f_X12_becomeNew_b10 (n : Nat) : jw_H → Nat → Int32 → Option (Unit × jw_H) :=
 Nat.rec (fun _ _ _ => none) (fun _ k10 => g_X12_becomeNew_b10 k10) n

noncomputable def f_X12_becomeNew (h : jw_H) (x0 : Nat) : Option (Unit × jw_H) :=
 (jw_gI h 12 (some x0) 13).bind fun v1 =>
 (jw_pI h 12 (some x0) 12 v1).bind fun h2 =>
 f_X12_becomeNew_b10  jw_FU h2 x0 (0 : Int32)

set_option maxRecDepth 100000 in
set_option maxHeartbeats 4000000 in
theorem l_X12_becomeNew_b91 {hi : jw_H} {k49 : jw_H → Nat → Int32 → Option (Unit × jw_H)} (hk49 : ∀ (h : jw_H) (x0 : Nat) (x1 : Int32) (r : Unit) (h' : jw_H), k49 h x0 x1 = some (r, h') → jw_E 1 uX12_becomeNew hi 49 [some (.ref x0), some (.int x1)] [] h (.inl none) h') {h : jw_H} {x0 : Nat} {x1 : Int32} {t0 : Option Nat} {t1 : Int32} {t2 : Int32} {r : Unit} {h' : jw_H} (hq : g_X12_becomeNew_b91 k49 h x0 x1 t0 t1 t2 = some (r, h')) : jw_E 1 uX12_becomeNew hi 91 [some (.ref x0), some (.int x1)] [.int t2, .int t1, va_rf t0] h (.inl none) h' := by
  unfold g_X12_becomeNew_b91 at hq
  obtain ⟨h1, eh1, hq⟩ := Option.bind_eq_some_iff.mp hq
  refine jw_iast (o := t0) dX12_becomeNew_91 eh1 ?_
  refine jw_iinc (L' := [some (.ref x0), some (.int (x1 + (1 : Int32)))]) dX12_becomeNew_92 rfl (v := (1 : Int32)) (by decide) (Nat.le_of_ble_eq_true rfl) rfl ?_
  refine jw_goto (tgt := 49) dX12_becomeNew_95 (by decide) ?_
  exact hk49 _ _ _ _ _ hq

set_option maxRecDepth 100000 in
set_option maxHeartbeats 4000000 in
theorem l_X12_becomeNew_b90 {hi : jw_H} {k49 : jw_H → Nat → Int32 → Option (Unit × jw_H)} (hk49 : ∀ (h : jw_H) (x0 : Nat) (x1 : Int32) (r : Unit) (h' : jw_H), k49 h x0 x1 = some (r, h') → jw_E 1 uX12_becomeNew hi 49 [some (.ref x0), some (.int x1)] [] h (.inl none) h') {h : jw_H} {x0 : Nat} {x1 : Int32} {t0 : Option Nat} {t1 : Int32} {r : Unit} {h' : jw_H} (hq : g_X12_becomeNew_b90 k49 h x0 x1 t0 t1 = some (r, h')) : jw_E 1 uX12_becomeNew hi 90 [some (.ref x0), some (.int x1)] [.int t1, va_rf t0] h (.inl none) h' := by
  unfold g_X12_becomeNew_b90 at hq
  refine jw_iconst dX12_becomeNew_90 (v := (-1 : Int32)) (by decide) ?_
  exact l_X12_becomeNew_b91 hk49 hq

set_option maxRecDepth 100000 in
set_option maxHeartbeats 4000000 in
theorem l_X12_becomeNew_b49g {hi : jw_H} {k49 : jw_H → Nat → Int32 → Option (Unit × jw_H)} (hk49 : ∀ (h : jw_H) (x0 : Nat) (x1 : Int32) (r : Unit) (h' : jw_H), k49 h x0 x1 = some (r, h') → jw_E 1 uX12_becomeNew hi 49 [some (.ref x0), some (.int x1)] [] h (.inl none) h') {h : jw_H} {x0 : Nat} {x1 : Int32} {r : Unit} {h' : jw_H} (hq : g_X12_becomeNew_b49 k49 h x0 x1 = some (r, h')) : jw_E 1 uX12_becomeNew hi 49 [some (.ref x0), some (.int x1)] [] h (.inl none) h' := by
  unfold g_X12_becomeNew_b49 at hq
  refine jw_iload_n dX12_becomeNew_49 rfl ?_
  refine jw_iconst dX12_becomeNew_50 (v := (5 : Int32)) (by decide) ?_
  rcases jw_if hq with ⟨c1, hq⟩ | ⟨c1, hq⟩
  · refine jw_icmp_ge_t (tgt := 98) dX12_becomeNew_51 (by decide) c1 ?_
    refine jw_aload_n dX12_becomeNew_98 (o := (some x0)) rfl ?_
    refine jw_aload_n dX12_becomeNew_99 (o := (some x0)) rfl ?_
    obtain ⟨v2, ev2, hq⟩ := Option.bind_eq_some_iff.mp hq
    refine jw_getI (o := (some x0)) dX12_becomeNew_100 ev2 fl_X12_124 rfl ?_
    obtain ⟨h3, eh3, hq⟩ := Option.bind_eq_some_iff.mp hq
    refine jw_putI (o := (some x0)) dX12_becomeNew_103 eh3 fl_X12_295 rfl rfl ?_
    cases hq
    exact jw_vret dX12_becomeNew_106 rfl
  · refine jw_icmp_ge_f (tgt := 98) dX12_becomeNew_51 (by decide) c1 ?_
    refine jw_aload_n dX12_becomeNew_54 (o := (some x0)) rfl ?_
    obtain ⟨v4, ev4, hq⟩ := Option.bind_eq_some_iff.mp hq
    refine jw_getR (o := (some x0)) dX12_becomeNew_55 ev4 fl_X12_35 rfl ?_
    refine jw_iload_n dX12_becomeNew_58 rfl ?_
    refine jw_aload_n dX12_becomeNew_59 (o := (some x0)) rfl ?_
    obtain ⟨v5, ev5, hq⟩ := Option.bind_eq_some_iff.mp hq
    refine jw_getR (o := (some x0)) dX12_becomeNew_60 ev5 fl_X12_35 rfl ?_
    refine jw_iload_n dX12_becomeNew_63 rfl ?_
    obtain ⟨v6, ev6, hq⟩ := Option.bind_eq_some_iff.mp hq
    refine jw_iald (o := v5) dX12_becomeNew_64 ev6 ?_
    rcases jw_if hq with ⟨c7, hq⟩ | ⟨c7, hq⟩
    · refine jw_if_lt_t (tgt := 90) dX12_becomeNew_65 (by decide) c7 ?_
      exact l_X12_becomeNew_b90 hk49 hq
    · refine jw_if_lt_f (tgt := 90) dX12_becomeNew_65 (by decide) c7 ?_
      refine jw_aload_n dX12_becomeNew_68 (o := (some x0)) rfl ?_
      refine jw_aload_n dX12_becomeNew_69 (o := (some x0)) rfl ?_
      obtain ⟨v8, ev8, hq⟩ := Option.bind_eq_some_iff.mp hq
      refine jw_getR (o := (some x0)) dX12_becomeNew_70 ev8 fl_X12_35 rfl ?_
      refine jw_iload_n dX12_becomeNew_73 rfl ?_
      obtain ⟨v9, ev9, hq⟩ := Option.bind_eq_some_iff.mp hq
      refine jw_iald (o := v8) dX12_becomeNew_74 ev9 ?_
      obtain ⟨a10, ea10, hq⟩ := Option.bind_eq_some_iff.mp hq
      obtain ⟨eoa10, eta10⟩ := jw_rc_spec ea10
      obtain ⟨w12, h11, ew12, hq⟩ := jw_b2_spec hq
      refine jw_callV (As := [.int v9]) (S := [.int x1, va_rf v4]) (a := a10) (v := some (.int w12)) dX12_becomeNew_75 mt_X12_lineWith in_X12_lineWith se_X12_lineWith lk_X12_307 (c_X12_lineWith ew12) eta10 (by decide) rfl rfl (by decide) (by simp only [List.map_cons, List.map_nil, List.sum_cons, List.sum_nil, jw_cat_rf, jw_cat_i, jw_cat_l, jw_cat_a, jw_cat_s] <;> decide) (by cases eoa10; rfl) ?_
      rcases jw_if hq with ⟨c13, hq⟩ | ⟨c13, hq⟩
      · refine jw_if_le_t (tgt := 90) dX12_becomeNew_78 (by decide) c13 ?_
        exact l_X12_becomeNew_b90 hk49 hq
      · refine jw_if_le_f (tgt := 90) dX12_becomeNew_78 (by decide) c13 ?_
        refine jw_aload_n dX12_becomeNew_81 (o := (some x0)) rfl ?_
        obtain ⟨v14, ev14, hq⟩ := Option.bind_eq_some_iff.mp hq
        refine jw_getR (o := (some x0)) dX12_becomeNew_82 ev14 fl_X12_35 rfl ?_
        refine jw_iload_n dX12_becomeNew_85 rfl ?_
        obtain ⟨v15, ev15, hq⟩ := Option.bind_eq_some_iff.mp hq
        refine jw_iald (o := v14) dX12_becomeNew_86 ev15 ?_
        refine jw_goto (tgt := 91) dX12_becomeNew_87 (by decide) ?_
        exact l_X12_becomeNew_b91 hk49 hq

theorem l_X12_becomeNew_b49 {hi : jw_H} : ∀ (n : Nat) (h : jw_H) (x0 : Nat) (x1 : Int32) (r : Unit) (h' : jw_H), f_X12_becomeNew_b49  n h x0 x1 = some (r, h') → jw_E 1 uX12_becomeNew hi 49 [some (.ref x0), some (.int x1)] [] h (.inl none) h' := by
  intro n
  induction n with
  | zero => intro h x0 x1 r h' hq; exact nomatch hq
  | succ n ih => intro h x0 x1 r h' hq; exact l_X12_becomeNew_b49g ih hq

set_option maxRecDepth 100000 in
set_option maxHeartbeats 4000000 in
theorem l_X12_becomeNew_b10g {hi : jw_H} {k10 : jw_H → Nat → Int32 → Option (Unit × jw_H)} (hk10 : ∀ (h : jw_H) (x0 : Nat) (x1 : Int32) (r : Unit) (h' : jw_H), k10 h x0 x1 = some (r, h') → jw_E 1 uX12_becomeNew hi 10 [some (.ref x0), some (.int x1)] [] h (.inl none) h') {h : jw_H} {x0 : Nat} {x1 : Int32} {r : Unit} {h' : jw_H} (hq : g_X12_becomeNew_b10 k10 h x0 x1 = some (r, h')) : jw_E 1 uX12_becomeNew hi 10 [some (.ref x0), some (.int x1)] [] h (.inl none) h' := by
  unfold g_X12_becomeNew_b10 at hq
  refine jw_iload_n dX12_becomeNew_10 rfl ?_
  refine jw_aload_n dX12_becomeNew_11 (o := (some x0)) rfl ?_
  obtain ⟨v1, ev1, hq⟩ := Option.bind_eq_some_iff.mp hq
  refine jw_getI (o := (some x0)) dX12_becomeNew_12 ev1 fl_X12_536 rfl ?_
  rcases jw_if hq with ⟨c2, hq⟩ | ⟨c2, hq⟩
  · refine jw_icmp_ge_t (tgt := 47) dX12_becomeNew_15 (by decide) c2 ?_
    refine jw_iconst dX12_becomeNew_47 (v := (0 : Int32)) (by decide) ?_
    refine jw_istore_n (L' := [some (.ref x0), some (.int (0 : Int32))]) dX12_becomeNew_48 (Nat.le_of_ble_eq_true rfl) rfl ?_
    exact l_X12_becomeNew_b49  jw_FU _ _ _ _ _ hq
  · refine jw_icmp_ge_f (tgt := 47) dX12_becomeNew_15 (by decide) c2 ?_
    refine jw_aload_n dX12_becomeNew_18 (o := (some x0)) rfl ?_
    refine jw_bipush dX12_becomeNew_19 (v := (41 : Int32)) (by decide) ?_
    refine jw_iload_n dX12_becomeNew_21 rfl ?_
    refine jw_iadd dX12_becomeNew_22 ?_
    refine jw_iconst dX12_becomeNew_23 (v := (0 : Int32)) (by decide) ?_
    refine jw_iload_n dX12_becomeNew_24 rfl ?_
    refine jw_iadd dX12_becomeNew_25 ?_
    obtain ⟨a3, ea3, hq⟩ := Option.bind_eq_some_iff.mp hq
    obtain ⟨eoa3, eta3⟩ := jw_rc_spec ea3
    obtain ⟨w5, h4, ew5, hq⟩ := jw_b2_spec hq
    refine jw_callV (As := [.int ((41 : Int32) + x1), .int ((0 : Int32) + x1)]) (S := []) (a := a3) (v := none) dX12_becomeNew_26 mt_X12_copyRow in_X12_copyRow se_X12_copyRow lk_X12_127 (c_X12_copyRow ew5) eta3 (by decide) rfl rfl (by decide) (Nat.le_of_ble_eq_true rfl) (by cases eoa3; rfl) ?_
    refine jw_aload_n dX12_becomeNew_29 (o := (some x0)) rfl ?_
    obtain ⟨v6, ev6, hq⟩ := Option.bind_eq_some_iff.mp hq
    refine jw_getR (o := (some x0)) dX12_becomeNew_30 ev6 fl_X12_26 rfl ?_
    refine jw_iload_n dX12_becomeNew_33 rfl ?_
    refine jw_aload_n dX12_becomeNew_34 (o := (some x0)) rfl ?_
    obtain ⟨v7, ev7, hq⟩ := Option.bind_eq_some_iff.mp hq
    refine jw_getR (o := (some x0)) dX12_becomeNew_35 ev7 fl_X12_29 rfl ?_
    refine jw_iload_n dX12_becomeNew_38 rfl ?_
    obtain ⟨v8, ev8, hq⟩ := Option.bind_eq_some_iff.mp hq
    refine jw_iald (o := v7) dX12_becomeNew_39 ev8 ?_
    obtain ⟨h9, eh9, hq⟩ := Option.bind_eq_some_iff.mp hq
    refine jw_iast (o := v6) dX12_becomeNew_40 eh9 ?_
    refine jw_iinc (L' := [some (.ref x0), some (.int (x1 + (1 : Int32)))]) dX12_becomeNew_41 rfl (v := (1 : Int32)) (by decide) (Nat.le_of_ble_eq_true rfl) rfl ?_
    refine jw_goto (tgt := 10) dX12_becomeNew_44 (by decide) ?_
    exact hk10 _ _ _ _ _ hq

theorem l_X12_becomeNew_b10 {hi : jw_H} : ∀ (n : Nat) (h : jw_H) (x0 : Nat) (x1 : Int32) (r : Unit) (h' : jw_H), f_X12_becomeNew_b10  n h x0 x1 = some (r, h') → jw_E 1 uX12_becomeNew hi 10 [some (.ref x0), some (.int x1)] [] h (.inl none) h' := by
  intro n
  induction n with
  | zero => intro h x0 x1 r h' hq; exact nomatch hq
  | succ n ih => intro h x0 x1 r h' hq; exact l_X12_becomeNew_b10g ih hq

set_option maxRecDepth 100000 in
set_option maxHeartbeats 4000000 in
theorem l_X12_becomeNew {hi : jw_H} {h : jw_H} {x0 : Nat} {r : Unit} {h' : jw_H} (hq : f_X12_becomeNew  h x0 = some (r, h')) : jw_E 1 uX12_becomeNew hi 0 [some (.ref x0), none] [] h (.inl none) h' := by
  unfold f_X12_becomeNew at hq
  refine jw_aload_n dX12_becomeNew_0 (o := (some x0)) rfl ?_
  refine jw_aload_n dX12_becomeNew_1 (o := (some x0)) rfl ?_
  obtain ⟨v1, ev1, hq⟩ := Option.bind_eq_some_iff.mp hq
  refine jw_getI (o := (some x0)) dX12_becomeNew_2 ev1 fl_X12_536 rfl ?_
  obtain ⟨h2, eh2, hq⟩ := Option.bind_eq_some_iff.mp hq
  refine jw_putI (o := (some x0)) dX12_becomeNew_5 eh2 fl_X12_124 rfl rfl ?_
  refine jw_iconst dX12_becomeNew_8 (v := (0 : Int32)) (by decide) ?_
  refine jw_istore_n (L' := [some (.ref x0), some (.int (0 : Int32))]) dX12_becomeNew_9 (Nat.le_of_ble_eq_true rfl) rfl ?_
  exact l_X12_becomeNew_b10  jw_FU _ _ _ _ _ hq

theorem c_X12_becomeNew {h : jw_H} {x0 : Nat} {r : Unit} {h' : jw_H} (hq : f_X12_becomeNew h x0 = some (r, h')) : jw_Con (Cond.code yX12_becomeNew cX12_becomeNew 2 none) yX12_becomeNew 1 [.ref x0] h (.inl none) h' :=
  jw_con false (plainFor_of_name (by decide +kernel)) (fun z => nomatch z) (by simp [jw_ent, jw_sl0_nil, jw_sl0_int, jw_sl0_long, jw_sl0_ref, jw_sl0_rf, jw_sl0_scr, List.replicate]) (by simp [jw_sl0_nil, jw_sl0_int, jw_sl0_long, jw_sl0_ref, jw_sl0_rf, jw_sl0_scr]) (l_X12_becomeNew hq)


/-! X12_playLines -/
noncomputable def g_X12_playLines_b115 (h : jw_H) (x0 : Nat) (x1 : Int32) : Option (Int32 × jw_H) :=
 (jw_pI h 12 (some x0) 18 x1).bind fun h1 =>
 if x1 ≤ 0 then ((jw_rc h1 12 (some x0)).bind fun a3 =>
 jw_b2 (f_X12_becomeNew h1 a3) fun w5 h4 =>
 (jw_rc h4 12 (some x0)).bind fun a6 =>
 jw_b2 (f_X12_noteDeed h4 a6) fun w8 h7 =>
 (jw_gI h7 12 (some x0) 73).bind fun v9 =>
 some (v9, h7))
 else ((jw_rc h1 12 (some x0)).bind fun a10 =>
 jw_b2 (f_X12_comeBack h1 a10) fun w12 h11 =>
 some ((-1 : Int32), h11))

noncomputable def g_X12_playLines_b81 (k81 : jw_H → Nat → Int32 → Option (Int32 × jw_H)) (h : jw_H) (x0 : Nat) (x1 : Int32) : Option (Int32 × jw_H) :=
 (jw_gI h 12 (some x0) 66).bind fun v1 =>
 (jw_gI h 12 (some x0) 65).bind fun v2 =>
 if v2 ≤ v1 then (g_X12_playLines_b115  h x0 x1)
 else (if x1 = 0 then ((jw_gI h 12 (some x0) 71).bind fun v5 =>
 if v5 = 0 then ((jw_rc h 12 (some x0)).bind fun a7 =>
 jw_b2 (f_X12_takeNext h a7) fun w9 h8 =>
 (jw_rc h8 12 (some x0)).bind fun a10 =>
 jw_b2 (f_X12_workLine h8 a10) fun w12 h11 =>
 k81 h11 x0 w12)
 else (g_X12_playLines_b115  h x0 x1))
 else (g_X12_playLines_b115  h x0 x1))

noncomputable def f_X12_playLines_b81 (n : Nat) : jw_H → Nat → Int32 → Option (Int32 × jw_H) :=
 Nat.rec (fun _ _ _ => none) (fun _ k81 => g_X12_playLines_b81 k81) n

noncomputable def g_X12_playLines_b45 (k45 : jw_H → Nat → Int32 → Option (Int32 × jw_H)) (h : jw_H) (x0 : Nat) (x1 : Int32) : Option (Int32 × jw_H) :=
 if (60 : Int32) ≤ x1 then ((jw_rc h 12 (some x0)).bind fun a2 =>
 jw_b2 (f_X12_save h a2) fun w4 h3 =>
 (jw_rc h3 12 (some x0)).bind fun a5 =>
 jw_b2 (f_X12_emptyFiles h3 a5) fun w7 h6 =>
 f_X12_playLines_b81  jw_FU h6 x0 (0 : Int32))
 else ((jw_gR h 12 (some x0) 74).bind fun v8 =>
 (jw_si h 22 v8 x1 (vp_nar .boolean (0 : Int32))).bind fun h9 =>
 (jw_gR h9 12 (some x0) 75).bind fun v10 =>
 (jw_si h9 20 v10 x1 (0 : Int32)).bind fun h11 =>
 k45 h11 x0 (x1 + (1 : Int32)))

noncomputable def f_X12_playLines_b45 (n : Nat) : jw_H → Nat → Int32 → Option (Int32 × jw_H) :=
 Nat.rec (fun _ _ _ => none) (fun _ k45 => g_X12_playLines_b45 k45) n

noncomputable def f_X12_playLines (h : jw_H) (x0 : Nat) : Option (Int32 × jw_H) :=
 (jw_gI h 12 (some x0) 63).bind fun v1 =>
 (jw_pI h 12 (some x0) 63 (v1 + (1 : Int32))).bind fun h2 =>
 (jw_pI h2 12 (some x0) 73 (0 : Int32)).bind fun h3 =>
 (jw_gI h3 12 (some x0) 12).bind fun v4 =>
 (jw_pI h3 12 (some x0) 65 v4).bind fun h5 =>
 (jw_pI h5 12 (some x0) 66 (0 : Int32)).bind fun h6 =>
 (jw_pI h6 12 (some x0) 13 (0 : Int32)).bind fun h7 =>
 (jw_pB h7 12 (some x0) 71 (0 : Int32)).bind fun h8 =>
 (jw_pI h8 12 (some x0) 69 (0 : Int32)).bind fun h9 =>
 f_X12_playLines_b45  jw_FU h9 x0 (0 : Int32)

set_option maxRecDepth 100000 in
set_option maxHeartbeats 4000000 in
theorem l_X12_playLines_b115 {hi : jw_H} {h : jw_H} {x0 : Nat} {x1 : Int32} {r : Int32} {h' : jw_H} (hq : g_X12_playLines_b115  h x0 x1 = some (r, h')) : jw_E 19 uX12_playLines hi 115 [some (.ref x0), some (.int x1)] [] h (.inl (some (.int r))) h' := by
  unfold g_X12_playLines_b115 at hq
  refine jw_aload_n dX12_playLines_115 (o := (some x0)) rfl ?_
  refine jw_iload_n dX12_playLines_116 rfl ?_
  obtain ⟨h1, eh1, hq⟩ := Option.bind_eq_some_iff.mp hq
  refine jw_putI (o := (some x0)) dX12_playLines_117 eh1 fl_X12_518 rfl rfl ?_
  refine jw_iload_n dX12_playLines_120 rfl ?_
  rcases jw_if hq with ⟨c2, hq⟩ | ⟨c2, hq⟩
  · refine jw_if_le_t (tgt := 130) dX12_playLines_121 (by decide) c2 ?_
    refine jw_aload_n dX12_playLines_130 (o := (some x0)) rfl ?_
    obtain ⟨a3, ea3, hq⟩ := Option.bind_eq_some_iff.mp hq
    obtain ⟨eoa3, eta3⟩ := jw_rc_spec ea3
    obtain ⟨w5, h4, ew5, hq⟩ := jw_b2_spec hq
    refine jw_callV (As := []) (S := []) (a := a3) (v := none) dX12_playLines_131 mt_X12_becomeNew in_X12_becomeNew se_X12_becomeNew lk_X12_676 (c_X12_becomeNew ew5) eta3 (by decide) rfl rfl (by decide) (Nat.le_of_ble_eq_true rfl) (by cases eoa3; rfl) ?_
    refine jw_aload_n dX12_playLines_134 (o := (some x0)) rfl ?_
    obtain ⟨a6, ea6, hq⟩ := Option.bind_eq_some_iff.mp hq
    obtain ⟨eoa6, eta6⟩ := jw_rc_spec ea6
    obtain ⟨w8, h7, ew8, hq⟩ := jw_b2_spec hq
    refine jw_callV (As := []) (S := []) (a := a6) (v := none) dX12_playLines_135 mt_X12_noteDeed in_X12_noteDeed se_X12_noteDeed lk_X12_533 (c_X12_noteDeed ew8) eta6 (by decide) rfl rfl (by decide) (Nat.le_of_ble_eq_true rfl) (by cases eoa6; rfl) ?_
    refine jw_aload_n dX12_playLines_138 (o := (some x0)) rfl ?_
    obtain ⟨v9, ev9, hq⟩ := Option.bind_eq_some_iff.mp hq
    refine jw_getI (o := (some x0)) dX12_playLines_139 ev9 fl_X12_618 rfl ?_
    cases hq
    exact jw_iret (ty := .int) dX12_playLines_142 rfl rfl
  · refine jw_if_le_f (tgt := 130) dX12_playLines_121 (by decide) c2 ?_
    refine jw_aload_n dX12_playLines_124 (o := (some x0)) rfl ?_
    obtain ⟨a10, ea10, hq⟩ := Option.bind_eq_some_iff.mp hq
    obtain ⟨eoa10, eta10⟩ := jw_rc_spec ea10
    obtain ⟨w12, h11, ew12, hq⟩ := jw_b2_spec hq
    refine jw_callV (As := []) (S := []) (a := a10) (v := none) dX12_playLines_125 mt_X12_comeBack in_X12_comeBack se_X12_comeBack lk_X12_527 (c_X12_comeBack ew12) eta10 (by decide) rfl rfl (by decide) (Nat.le_of_ble_eq_true rfl) (by cases eoa10; rfl) ?_
    refine jw_iconst dX12_playLines_128 (v := (-1 : Int32)) (by decide) ?_
    cases hq
    exact jw_iret (ty := .int) dX12_playLines_129 rfl rfl

set_option maxRecDepth 100000 in
set_option maxHeartbeats 4000000 in
theorem l_X12_playLines_b81g {hi : jw_H} {k81 : jw_H → Nat → Int32 → Option (Int32 × jw_H)} (hk81 : ∀ (h : jw_H) (x0 : Nat) (x1 : Int32) (r : Int32) (h' : jw_H), k81 h x0 x1 = some (r, h') → jw_E 19 uX12_playLines hi 81 [some (.ref x0), some (.int x1)] [] h (.inl (some (.int r))) h') {h : jw_H} {x0 : Nat} {x1 : Int32} {r : Int32} {h' : jw_H} (hq : g_X12_playLines_b81 k81 h x0 x1 = some (r, h')) : jw_E 19 uX12_playLines hi 81 [some (.ref x0), some (.int x1)] [] h (.inl (some (.int r))) h' := by
  unfold g_X12_playLines_b81 at hq
  refine jw_aload_n dX12_playLines_81 (o := (some x0)) rfl ?_
  obtain ⟨v1, ev1, hq⟩ := Option.bind_eq_some_iff.mp hq
  refine jw_getI (o := (some x0)) dX12_playLines_82 ev1 fl_X12_545 rfl ?_
  refine jw_aload_n dX12_playLines_85 (o := (some x0)) rfl ?_
  obtain ⟨v2, ev2, hq⟩ := Option.bind_eq_some_iff.mp hq
  refine jw_getI (o := (some x0)) dX12_playLines_86 ev2 fl_X12_563 rfl ?_
  rcases jw_if hq with ⟨c3, hq⟩ | ⟨c3, hq⟩
  · refine jw_icmp_ge_t (tgt := 115) dX12_playLines_89 (by decide) c3 ?_
    exact l_X12_playLines_b115  hq
  · refine jw_icmp_ge_f (tgt := 115) dX12_playLines_89 (by decide) c3 ?_
    refine jw_iload_n dX12_playLines_92 rfl ?_
    rcases jw_if hq with ⟨c4, hq⟩ | ⟨c4, hq⟩
    · refine jw_if_ne_f (tgt := 115) dX12_playLines_93 (by decide) c4 ?_
      refine jw_aload_n dX12_playLines_96 (o := (some x0)) rfl ?_
      obtain ⟨v5, ev5, hq⟩ := Option.bind_eq_some_iff.mp hq
      refine jw_getI (o := (some x0)) dX12_playLines_97 ev5 fl_X12_643 rfl ?_
      rcases jw_if hq with ⟨c6, hq⟩ | ⟨c6, hq⟩
      · refine jw_if_ne_f (tgt := 115) dX12_playLines_100 (by decide) c6 ?_
        refine jw_aload_n dX12_playLines_103 (o := (some x0)) rfl ?_
        obtain ⟨a7, ea7, hq⟩ := Option.bind_eq_some_iff.mp hq
        obtain ⟨eoa7, eta7⟩ := jw_rc_spec ea7
        obtain ⟨w9, h8, ew9, hq⟩ := jw_b2_spec hq
        refine jw_callV (As := []) (S := []) (a := a7) (v := none) dX12_playLines_104 mt_X12_takeNext in_X12_takeNext se_X12_takeNext lk_X12_649 (c_X12_takeNext ew9) eta7 (by decide) rfl rfl (by decide) (Nat.le_of_ble_eq_true rfl) (by cases eoa7; rfl) ?_
        refine jw_aload_n dX12_playLines_107 (o := (some x0)) rfl ?_
        obtain ⟨a10, ea10, hq⟩ := Option.bind_eq_some_iff.mp hq
        obtain ⟨eoa10, eta10⟩ := jw_rc_spec ea10
        obtain ⟨w12, h11, ew12, hq⟩ := jw_b2_spec hq
        refine jw_callV (As := []) (S := []) (a := a10) (v := some (.int w12)) dX12_playLines_108 mt_X12_workLine in_X12_workLine se_X12_workLine lk_X12_673 (c_X12_workLine ew12) eta10 (by decide) rfl rfl (by decide) (Nat.le_of_ble_eq_true rfl) (by cases eoa10; rfl) ?_
        refine jw_istore_n (L' := [some (.ref x0), some (.int w12)]) dX12_playLines_111 (Nat.le_of_ble_eq_true rfl) rfl ?_
        refine jw_goto (tgt := 81) dX12_playLines_112 (by decide) ?_
        exact hk81 _ _ _ _ _ hq
      · refine jw_if_ne_t (tgt := 115) dX12_playLines_100 (by decide) c6 ?_
        exact l_X12_playLines_b115  hq
    · refine jw_if_ne_t (tgt := 115) dX12_playLines_93 (by decide) c4 ?_
      exact l_X12_playLines_b115  hq

theorem l_X12_playLines_b81 {hi : jw_H} : ∀ (n : Nat) (h : jw_H) (x0 : Nat) (x1 : Int32) (r : Int32) (h' : jw_H), f_X12_playLines_b81  n h x0 x1 = some (r, h') → jw_E 19 uX12_playLines hi 81 [some (.ref x0), some (.int x1)] [] h (.inl (some (.int r))) h' := by
  intro n
  induction n with
  | zero => intro h x0 x1 r h' hq; exact nomatch hq
  | succ n ih => intro h x0 x1 r h' hq; exact l_X12_playLines_b81g ih hq

set_option maxRecDepth 100000 in
set_option maxHeartbeats 4000000 in
theorem l_X12_playLines_b45g {hi : jw_H} {k45 : jw_H → Nat → Int32 → Option (Int32 × jw_H)} (hk45 : ∀ (h : jw_H) (x0 : Nat) (x1 : Int32) (r : Int32) (h' : jw_H), k45 h x0 x1 = some (r, h') → jw_E 19 uX12_playLines hi 45 [some (.ref x0), some (.int x1)] [] h (.inl (some (.int r))) h') {h : jw_H} {x0 : Nat} {x1 : Int32} {r : Int32} {h' : jw_H} (hq : g_X12_playLines_b45 k45 h x0 x1 = some (r, h')) : jw_E 19 uX12_playLines hi 45 [some (.ref x0), some (.int x1)] [] h (.inl (some (.int r))) h' := by
  unfold g_X12_playLines_b45 at hq
  refine jw_iload_n dX12_playLines_45 rfl ?_
  refine jw_bipush dX12_playLines_46 (v := (60 : Int32)) (by decide) ?_
  rcases jw_if hq with ⟨c1, hq⟩ | ⟨c1, hq⟩
  · refine jw_icmp_ge_t (tgt := 71) dX12_playLines_48 (by decide) c1 ?_
    refine jw_aload_n dX12_playLines_71 (o := (some x0)) rfl ?_
    obtain ⟨a2, ea2, hq⟩ := Option.bind_eq_some_iff.mp hq
    obtain ⟨eoa2, eta2⟩ := jw_rc_spec ea2
    obtain ⟨w4, h3, ew4, hq⟩ := jw_b2_spec hq
    refine jw_callV (As := []) (S := []) (a := a2) (v := none) dX12_playLines_72 mt_X12_save in_X12_save se_X12_save lk_X12_521 (c_X12_save ew4) eta2 (by decide) rfl rfl (by decide) (Nat.le_of_ble_eq_true rfl) (by cases eoa2; rfl) ?_
    refine jw_aload_n dX12_playLines_75 (o := (some x0)) rfl ?_
    obtain ⟨a5, ea5, hq⟩ := Option.bind_eq_some_iff.mp hq
    obtain ⟨eoa5, eta5⟩ := jw_rc_spec ea5
    obtain ⟨w7, h6, ew7, hq⟩ := jw_b2_spec hq
    refine jw_callV (As := []) (S := []) (a := a5) (v := none) dX12_playLines_76 mt_X12_emptyFiles in_X12_emptyFiles se_X12_emptyFiles lk_X12_670 (c_X12_emptyFiles ew7) eta5 (by decide) rfl rfl (by decide) (Nat.le_of_ble_eq_true rfl) (by cases eoa5; rfl) ?_
    refine jw_iconst dX12_playLines_79 (v := (0 : Int32)) (by decide) ?_
    refine jw_istore_n (L' := [some (.ref x0), some (.int (0 : Int32))]) dX12_playLines_80 (Nat.le_of_ble_eq_true rfl) rfl ?_
    exact l_X12_playLines_b81  jw_FU _ _ _ _ _ hq
  · refine jw_icmp_ge_f (tgt := 71) dX12_playLines_48 (by decide) c1 ?_
    refine jw_aload_n dX12_playLines_51 (o := (some x0)) rfl ?_
    obtain ⟨v8, ev8, hq⟩ := Option.bind_eq_some_iff.mp hq
    refine jw_getR (o := (some x0)) dX12_playLines_52 ev8 fl_X12_90 rfl ?_
    refine jw_iload_n dX12_playLines_55 rfl ?_
    refine jw_iconst dX12_playLines_56 (v := (0 : Int32)) (by decide) ?_
    obtain ⟨h9, eh9, hq⟩ := Option.bind_eq_some_iff.mp hq
    refine jw_zast (o := v8) rfl dX12_playLines_57 eh9 ?_
    refine jw_aload_n dX12_playLines_58 (o := (some x0)) rfl ?_
    obtain ⟨v10, ev10, hq⟩ := Option.bind_eq_some_iff.mp hq
    refine jw_getR (o := (some x0)) dX12_playLines_59 ev10 fl_X12_93 rfl ?_
    refine jw_iload_n dX12_playLines_62 rfl ?_
    refine jw_iconst dX12_playLines_63 (v := (0 : Int32)) (by decide) ?_
    obtain ⟨h11, eh11, hq⟩ := Option.bind_eq_some_iff.mp hq
    refine jw_iast (o := v10) dX12_playLines_64 eh11 ?_
    refine jw_iinc (L' := [some (.ref x0), some (.int (x1 + (1 : Int32)))]) dX12_playLines_65 rfl (v := (1 : Int32)) (by decide) (Nat.le_of_ble_eq_true rfl) rfl ?_
    refine jw_goto (tgt := 45) dX12_playLines_68 (by decide) ?_
    exact hk45 _ _ _ _ _ hq

theorem l_X12_playLines_b45 {hi : jw_H} : ∀ (n : Nat) (h : jw_H) (x0 : Nat) (x1 : Int32) (r : Int32) (h' : jw_H), f_X12_playLines_b45  n h x0 x1 = some (r, h') → jw_E 19 uX12_playLines hi 45 [some (.ref x0), some (.int x1)] [] h (.inl (some (.int r))) h' := by
  intro n
  induction n with
  | zero => intro h x0 x1 r h' hq; exact nomatch hq
  | succ n ih => intro h x0 x1 r h' hq; exact l_X12_playLines_b45g ih hq

set_option maxRecDepth 100000 in
set_option maxHeartbeats 4000000 in
theorem l_X12_playLines {hi : jw_H} {h : jw_H} {x0 : Nat} {r : Int32} {h' : jw_H} (hq : f_X12_playLines  h x0 = some (r, h')) : jw_E 19 uX12_playLines hi 0 [some (.ref x0), none] [] h (.inl (some (.int r))) h' := by
  unfold f_X12_playLines at hq
  refine jw_aload_n dX12_playLines_0 (o := (some x0)) rfl ?_
  refine jw_dup dX12_playLines_1 rfl ?_
  obtain ⟨v1, ev1, hq⟩ := Option.bind_eq_some_iff.mp hq
  refine jw_getI (o := (some x0)) dX12_playLines_2 ev1 fl_X12_497 rfl ?_
  refine jw_iconst dX12_playLines_5 (v := (1 : Int32)) (by decide) ?_
  refine jw_iadd dX12_playLines_6 ?_
  obtain ⟨h2, eh2, hq⟩ := Option.bind_eq_some_iff.mp hq
  refine jw_putI (o := (some x0)) dX12_playLines_7 eh2 fl_X12_497 rfl rfl ?_
  refine jw_aload_n dX12_playLines_10 (o := (some x0)) rfl ?_
  refine jw_iconst dX12_playLines_11 (v := (0 : Int32)) (by decide) ?_
  obtain ⟨h3, eh3, hq⟩ := Option.bind_eq_some_iff.mp hq
  refine jw_putI (o := (some x0)) dX12_playLines_12 eh3 fl_X12_618 rfl rfl ?_
  refine jw_aload_n dX12_playLines_15 (o := (some x0)) rfl ?_
  refine jw_aload_n dX12_playLines_16 (o := (some x0)) rfl ?_
  obtain ⟨v4, ev4, hq⟩ := Option.bind_eq_some_iff.mp hq
  refine jw_getI (o := (some x0)) dX12_playLines_17 ev4 fl_X12_124 rfl ?_
  obtain ⟨h5, eh5, hq⟩ := Option.bind_eq_some_iff.mp hq
  refine jw_putI (o := (some x0)) dX12_playLines_20 eh5 fl_X12_563 rfl rfl ?_
  refine jw_aload_n dX12_playLines_23 (o := (some x0)) rfl ?_
  refine jw_iconst dX12_playLines_24 (v := (0 : Int32)) (by decide) ?_
  obtain ⟨h6, eh6, hq⟩ := Option.bind_eq_some_iff.mp hq
  refine jw_putI (o := (some x0)) dX12_playLines_25 eh6 fl_X12_545 rfl rfl ?_
  refine jw_aload_n dX12_playLines_28 (o := (some x0)) rfl ?_
  refine jw_iconst dX12_playLines_29 (v := (0 : Int32)) (by decide) ?_
  obtain ⟨h7, eh7, hq⟩ := Option.bind_eq_some_iff.mp hq
  refine jw_putI (o := (some x0)) dX12_playLines_30 eh7 fl_X12_536 rfl rfl ?_
  refine jw_aload_n dX12_playLines_33 (o := (some x0)) rfl ?_
  refine jw_iconst dX12_playLines_34 (v := (0 : Int32)) (by decide) ?_
  obtain ⟨h8, eh8, hq⟩ := Option.bind_eq_some_iff.mp hq
  refine jw_putB (o := (some x0)) dX12_playLines_35 eh8 fl_X12_643 rfl rfl ?_
  refine jw_aload_n dX12_playLines_38 (o := (some x0)) rfl ?_
  refine jw_iconst dX12_playLines_39 (v := (0 : Int32)) (by decide) ?_
  obtain ⟨h9, eh9, hq⟩ := Option.bind_eq_some_iff.mp hq
  refine jw_putI (o := (some x0)) dX12_playLines_40 eh9 fl_X12_554 rfl rfl ?_
  refine jw_iconst dX12_playLines_43 (v := (0 : Int32)) (by decide) ?_
  refine jw_istore_n (L' := [some (.ref x0), some (.int (0 : Int32))]) dX12_playLines_44 (Nat.le_of_ble_eq_true rfl) rfl ?_
  exact l_X12_playLines_b45  jw_FU _ _ _ _ _ hq

theorem c_X12_playLines {h : jw_H} {x0 : Nat} {r : Int32} {h' : jw_H} (hq : f_X12_playLines h x0 = some (r, h')) : jw_Con (Cond.code yX12_playLines cX12_playLines 2 (some .int)) yX12_playLines 19 [.ref x0] h (.inl (some (.int r))) h' :=
  jw_con false (plainFor_of_name (by decide +kernel)) (fun z => nomatch z) (by simp [jw_ent, jw_sl0_nil, jw_sl0_int, jw_sl0_long, jw_sl0_ref, jw_sl0_rf, jw_sl0_scr, List.replicate]) (by simp [jw_sl0_nil, jw_sl0_int, jw_sl0_long, jw_sl0_ref, jw_sl0_rf, jw_sl0_scr]) (l_X12_playLines hq)


/-! X12_type -/
noncomputable def g_X12_type_b31 (h : jw_H) (x0 : Nat) (x1 : Int32) (t0 : Nat) (t1 : Int32) : Option (Int32 × jw_H) :=
 (jw_pI h 12 (some t0) 0 t1).bind fun h1 =>
 (jw_gI h1 12 (some x0) 0).bind fun v2 =>
 if v2 ≤ 0 then ((jw_gR h1 12 (some x0) 1).bind fun v4 =>
 (jw_gI h1 12 (some x0) 2).bind fun v5 =>
 (jw_si h1 20 v4 v5 x1).bind fun h6 =>
 (jw_gI h6 12 (some x0) 2).bind fun v7 =>
 (jw_pI h6 12 (some x0) 2 (v7 + (1 : Int32))).bind fun h8 =>
 (jw_gI h8 12 (some x0) 2).bind fun v9 =>
 some (v9, h8))
 else (some ((0 : Int32), h1))

noncomputable def g_X12_type_b13 (h : jw_H) (x0 : Nat) (x1 : Int32) (t0 : Nat) : Option (Int32 × jw_H) :=
 g_X12_type_b31  h x0 x1 t0 (1 : Int32)

noncomputable def f_X12_type (h : jw_H) (x0 : Nat) (x1 : Int32) : Option (Int32 × jw_H) :=
 if x1 < (32 : Int32) then (g_X12_type_b13  h x0 x1 x0)
 else (if x1 ≤ (126 : Int32) then ((jw_gI h 12 (some x0) 2).bind fun v3 =>
 if v3 = (60 : Int32) then (g_X12_type_b31  h x0 x1 x0 (2 : Int32))
 else (g_X12_type_b31  h x0 x1 x0 (0 : Int32)))
 else (g_X12_type_b13  h x0 x1 x0))

set_option maxRecDepth 100000 in
set_option maxHeartbeats 4000000 in
theorem l_X12_type_b31 {hi : jw_H} {h : jw_H} {x0 : Nat} {x1 : Int32} {t0 : Nat} {t1 : Int32} {r : Int32} {h' : jw_H} (hq : g_X12_type_b31  h x0 x1 t0 t1 = some (r, h')) : jw_E 0 uX12_type hi 31 [some (.ref x0), some (.int x1)] [.int t1, .ref t0] h (.inl (some (.int r))) h' := by
  unfold g_X12_type_b31 at hq
  obtain ⟨h1, eh1, hq⟩ := Option.bind_eq_some_iff.mp hq
  refine jw_putI (o := (some t0)) dX12_type_31 eh1 fl_X12_105 rfl rfl ?_
  refine jw_aload_n dX12_type_34 (o := (some x0)) rfl ?_
  obtain ⟨v2, ev2, hq⟩ := Option.bind_eq_some_iff.mp hq
  refine jw_getI (o := (some x0)) dX12_type_35 ev2 fl_X12_105 rfl ?_
  rcases jw_if hq with ⟨c3, hq⟩ | ⟨c3, hq⟩
  · refine jw_if_le_t (tgt := 43) dX12_type_38 (by decide) c3 ?_
    refine jw_aload_n dX12_type_43 (o := (some x0)) rfl ?_
    obtain ⟨v4, ev4, hq⟩ := Option.bind_eq_some_iff.mp hq
    refine jw_getR (o := (some x0)) dX12_type_44 ev4 fl_X12_7 rfl ?_
    refine jw_aload_n dX12_type_47 (o := (some x0)) rfl ?_
    obtain ⟨v5, ev5, hq⟩ := Option.bind_eq_some_iff.mp hq
    refine jw_getI (o := (some x0)) dX12_type_48 ev5 fl_X12_143 rfl ?_
    refine jw_iload_n dX12_type_51 rfl ?_
    obtain ⟨h6, eh6, hq⟩ := Option.bind_eq_some_iff.mp hq
    refine jw_iast (o := v4) dX12_type_52 eh6 ?_
    refine jw_aload_n dX12_type_53 (o := (some x0)) rfl ?_
    refine jw_dup dX12_type_54 rfl ?_
    obtain ⟨v7, ev7, hq⟩ := Option.bind_eq_some_iff.mp hq
    refine jw_getI (o := (some x0)) dX12_type_55 ev7 fl_X12_143 rfl ?_
    refine jw_iconst dX12_type_58 (v := (1 : Int32)) (by decide) ?_
    refine jw_iadd dX12_type_59 ?_
    obtain ⟨h8, eh8, hq⟩ := Option.bind_eq_some_iff.mp hq
    refine jw_putI (o := (some x0)) dX12_type_60 eh8 fl_X12_143 rfl rfl ?_
    refine jw_aload_n dX12_type_63 (o := (some x0)) rfl ?_
    obtain ⟨v9, ev9, hq⟩ := Option.bind_eq_some_iff.mp hq
    refine jw_getI (o := (some x0)) dX12_type_64 ev9 fl_X12_143 rfl ?_
    cases hq
    exact jw_iret (ty := .int) dX12_type_67 rfl rfl
  · refine jw_if_le_f (tgt := 43) dX12_type_38 (by decide) c3 ?_
    refine jw_iconst dX12_type_41 (v := (0 : Int32)) (by decide) ?_
    cases hq
    exact jw_iret (ty := .int) dX12_type_42 rfl rfl

set_option maxRecDepth 100000 in
set_option maxHeartbeats 4000000 in
theorem l_X12_type_b13 {hi : jw_H} {h : jw_H} {x0 : Nat} {x1 : Int32} {t0 : Nat} {r : Int32} {h' : jw_H} (hq : g_X12_type_b13  h x0 x1 t0 = some (r, h')) : jw_E 0 uX12_type hi 13 [some (.ref x0), some (.int x1)] [.ref t0] h (.inl (some (.int r))) h' := by
  unfold g_X12_type_b13 at hq
  refine jw_iconst dX12_type_13 (v := (1 : Int32)) (by decide) ?_
  refine jw_goto (tgt := 31) dX12_type_14 (by decide) ?_
  exact l_X12_type_b31  hq

set_option maxRecDepth 100000 in
set_option maxHeartbeats 4000000 in
theorem l_X12_type {hi : jw_H} {h : jw_H} {x0 : Nat} {x1 : Int32} {r : Int32} {h' : jw_H} (hq : f_X12_type  h x0 x1 = some (r, h')) : jw_E 0 uX12_type hi 0 [some (.ref x0), some (.int x1)] [] h (.inl (some (.int r))) h' := by
  unfold f_X12_type at hq
  refine jw_aload_n dX12_type_0 (o := (some x0)) rfl ?_
  refine jw_iload_n dX12_type_1 rfl ?_
  refine jw_bipush dX12_type_2 (v := (32 : Int32)) (by decide) ?_
  rcases jw_if hq with ⟨c1, hq⟩ | ⟨c1, hq⟩
  · refine jw_icmp_lt_t (tgt := 13) dX12_type_4 (by decide) c1 ?_
    exact l_X12_type_b13  hq
  · refine jw_icmp_lt_f (tgt := 13) dX12_type_4 (by decide) c1 ?_
    refine jw_iload_n dX12_type_7 rfl ?_
    refine jw_bipush dX12_type_8 (v := (126 : Int32)) (by decide) ?_
    rcases jw_if hq with ⟨c2, hq⟩ | ⟨c2, hq⟩
    · refine jw_icmp_le_t (tgt := 17) dX12_type_10 (by decide) c2 ?_
      refine jw_aload_n dX12_type_17 (o := (some x0)) rfl ?_
      obtain ⟨v3, ev3, hq⟩ := Option.bind_eq_some_iff.mp hq
      refine jw_getI (o := (some x0)) dX12_type_18 ev3 fl_X12_143 rfl ?_
      refine jw_bipush dX12_type_21 (v := (60 : Int32)) (by decide) ?_
      rcases jw_if hq with ⟨c4, hq⟩ | ⟨c4, hq⟩
      · refine jw_icmp_ne_f (tgt := 30) dX12_type_23 (by decide) c4 ?_
        refine jw_iconst dX12_type_26 (v := (2 : Int32)) (by decide) ?_
        refine jw_goto (tgt := 31) dX12_type_27 (by decide) ?_
        exact l_X12_type_b31  hq
      · refine jw_icmp_ne_t (tgt := 30) dX12_type_23 (by decide) c4 ?_
        refine jw_iconst dX12_type_30 (v := (0 : Int32)) (by decide) ?_
        exact l_X12_type_b31  hq
    · refine jw_icmp_le_f (tgt := 17) dX12_type_10 (by decide) c2 ?_
      exact l_X12_type_b13  hq

theorem c_X12_type {h : jw_H} {x0 : Nat} {x1 : Int32} {r : Int32} {h' : jw_H} (hq : f_X12_type h x0 x1 = some (r, h')) : jw_Con (Cond.code yX12_type cX12_type 2 (some .int)) yX12_type 0 [.ref x0, .int x1] h (.inl (some (.int r))) h' :=
  jw_con false (plainFor_of_name (by decide +kernel)) (fun z => nomatch z) (by simp [jw_ent, jw_sl0_nil, jw_sl0_int, jw_sl0_long, jw_sl0_ref, jw_sl0_rf, jw_sl0_scr, List.replicate]) (by simp [jw_sl0_nil, jw_sl0_int, jw_sl0_long, jw_sl0_ref, jw_sl0_rf, jw_sl0_scr]) (l_X12_type hq)


/-! X12_wipe -/
noncomputable def f_X12_wipe (h : jw_H) (x0 : Nat) : Option (Int32 × jw_H) :=
 (jw_pI h 12 (some x0) 0 (0 : Int32)).bind fun h1 =>
 (jw_gI h1 12 (some x0) 2).bind fun v2 =>
 (jw_pI h1 12 (some x0) 2 (0 : Int32)).bind fun h3 =>
 some (v2, h3)

set_option maxRecDepth 100000 in
set_option maxHeartbeats 4000000 in
theorem l_X12_wipe {hi : jw_H} {h : jw_H} {x0 : Nat} {r : Int32} {h' : jw_H} (hq : f_X12_wipe  h x0 = some (r, h')) : jw_E 0 uX12_wipe hi 0 [some (.ref x0), none] [] h (.inl (some (.int r))) h' := by
  unfold f_X12_wipe at hq
  refine jw_aload_n dX12_wipe_0 (o := (some x0)) rfl ?_
  refine jw_iconst dX12_wipe_1 (v := (0 : Int32)) (by decide) ?_
  obtain ⟨h1, eh1, hq⟩ := Option.bind_eq_some_iff.mp hq
  refine jw_putI (o := (some x0)) dX12_wipe_2 eh1 fl_X12_105 rfl rfl ?_
  refine jw_aload_n dX12_wipe_5 (o := (some x0)) rfl ?_
  obtain ⟨v2, ev2, hq⟩ := Option.bind_eq_some_iff.mp hq
  refine jw_getI (o := (some x0)) dX12_wipe_6 ev2 fl_X12_143 rfl ?_
  refine jw_istore_n (L' := [some (.ref x0), some (.int v2)]) dX12_wipe_9 (Nat.le_of_ble_eq_true rfl) rfl ?_
  refine jw_aload_n dX12_wipe_10 (o := (some x0)) rfl ?_
  refine jw_iconst dX12_wipe_11 (v := (0 : Int32)) (by decide) ?_
  obtain ⟨h3, eh3, hq⟩ := Option.bind_eq_some_iff.mp hq
  refine jw_putI (o := (some x0)) dX12_wipe_12 eh3 fl_X12_143 rfl rfl ?_
  refine jw_iload_n dX12_wipe_15 rfl ?_
  cases hq
  exact jw_iret (ty := .int) dX12_wipe_16 rfl rfl

theorem c_X12_wipe {h : jw_H} {x0 : Nat} {r : Int32} {h' : jw_H} (hq : f_X12_wipe h x0 = some (r, h')) : jw_Con (Cond.code yX12_wipe cX12_wipe 2 (some .int)) yX12_wipe 0 [.ref x0] h (.inl (some (.int r))) h' :=
  jw_con false (plainFor_of_name (by decide +kernel)) (fun z => nomatch z) (by simp [jw_ent, jw_sl0_nil, jw_sl0_int, jw_sl0_long, jw_sl0_ref, jw_sl0_rf, jw_sl0_scr, List.replicate]) (by simp [jw_sl0_nil, jw_sl0_int, jw_sl0_long, jw_sl0_ref, jw_sl0_rf, jw_sl0_scr]) (l_X12_wipe hq)


/-! X12_fault -/
noncomputable def f_X12_fault (h : jw_H) (x0 : Nat) : Option (Int32 × jw_H) :=
 (jw_pI h 12 (some x0) 0 (0 : Int32)).bind fun h1 =>
 (jw_rc h1 12 (some x0)).bind fun a2 =>
 jw_b2 (f_X12_loadTape h1 a2) fun w4 h3 =>
 (jw_rc h3 12 (some x0)).bind fun a5 =>
 jw_b2 (f_X12_ordersFault h3 a5) fun w7 h6 =>
 some (w7, h6)

set_option maxRecDepth 100000 in
set_option maxHeartbeats 4000000 in
theorem l_X12_fault {hi : jw_H} {h : jw_H} {x0 : Nat} {r : Int32} {h' : jw_H} (hq : f_X12_fault  h x0 = some (r, h')) : jw_E 14 uX12_fault hi 0 [some (.ref x0)] [] h (.inl (some (.int r))) h' := by
  unfold f_X12_fault at hq
  refine jw_aload_n dX12_fault_0 (o := (some x0)) rfl ?_
  refine jw_iconst dX12_fault_1 (v := (0 : Int32)) (by decide) ?_
  obtain ⟨h1, eh1, hq⟩ := Option.bind_eq_some_iff.mp hq
  refine jw_putI (o := (some x0)) dX12_fault_2 eh1 fl_X12_105 rfl rfl ?_
  refine jw_aload_n dX12_fault_5 (o := (some x0)) rfl ?_
  obtain ⟨a2, ea2, hq⟩ := Option.bind_eq_some_iff.mp hq
  obtain ⟨eoa2, eta2⟩ := jw_rc_spec ea2
  obtain ⟨w4, h3, ew4, hq⟩ := jw_b2_spec hq
  refine jw_callV (As := []) (S := []) (a := a2) (v := none) dX12_fault_6 mt_X12_loadTape in_X12_loadTape se_X12_loadTape lk_X12_679 (c_X12_loadTape ew4) eta2 (by decide) rfl rfl (by decide) (Nat.le_of_ble_eq_true rfl) (by cases eoa2; rfl) ?_
  refine jw_aload_n dX12_fault_9 (o := (some x0)) rfl ?_
  obtain ⟨a5, ea5, hq⟩ := Option.bind_eq_some_iff.mp hq
  obtain ⟨eoa5, eta5⟩ := jw_rc_spec ea5
  obtain ⟨w7, h6, ew7, hq⟩ := jw_b2_spec hq
  refine jw_callV (As := []) (S := []) (a := a5) (v := some (.int w7)) dX12_fault_10 mt_X12_ordersFault in_X12_ordersFault se_X12_ordersFault lk_X12_682 (c_X12_ordersFault ew7) eta5 (by decide) rfl rfl (by decide) (Nat.le_of_ble_eq_true rfl) (by cases eoa5; rfl) ?_
  cases hq
  exact jw_iret (ty := .int) dX12_fault_13 rfl rfl

theorem c_X12_fault {h : jw_H} {x0 : Nat} {r : Int32} {h' : jw_H} (hq : f_X12_fault h x0 = some (r, h')) : jw_Con (Cond.code yX12_fault cX12_fault 1 (some .int)) yX12_fault 14 [.ref x0] h (.inl (some (.int r))) h' :=
  jw_con false (plainFor_of_name (by decide +kernel)) (fun z => nomatch z) (by simp [jw_ent, jw_sl0_nil, jw_sl0_int, jw_sl0_long, jw_sl0_ref, jw_sl0_rf, jw_sl0_scr, List.replicate]) (by simp [jw_sl0_nil, jw_sl0_int, jw_sl0_long, jw_sl0_ref, jw_sl0_rf, jw_sl0_scr]) (l_X12_fault hq)


/-! X12_patternFault -/
noncomputable def f_X12_patternFault (h : jw_H) (x0 : Nat) : Option (Int32 × jw_H) :=
 (jw_pI h 12 (some x0) 0 (0 : Int32)).bind fun h1 =>
 (jw_rc h1 12 (some x0)).bind fun a2 =>
 jw_b2 (f_X12_loadTape h1 a2) fun w4 h3 =>
 (jw_rc h3 12 (some x0)).bind fun a5 =>
 jw_b2 (f_X12_patternsFault h3 a5) fun w7 h6 =>
 some (w7, h6)

set_option maxRecDepth 100000 in
set_option maxHeartbeats 4000000 in
theorem l_X12_patternFault {hi : jw_H} {h : jw_H} {x0 : Nat} {r : Int32} {h' : jw_H} (hq : f_X12_patternFault  h x0 = some (r, h')) : jw_E 8 uX12_patternFault hi 0 [some (.ref x0)] [] h (.inl (some (.int r))) h' := by
  unfold f_X12_patternFault at hq
  refine jw_aload_n dX12_patternFault_0 (o := (some x0)) rfl ?_
  refine jw_iconst dX12_patternFault_1 (v := (0 : Int32)) (by decide) ?_
  obtain ⟨h1, eh1, hq⟩ := Option.bind_eq_some_iff.mp hq
  refine jw_putI (o := (some x0)) dX12_patternFault_2 eh1 fl_X12_105 rfl rfl ?_
  refine jw_aload_n dX12_patternFault_5 (o := (some x0)) rfl ?_
  obtain ⟨a2, ea2, hq⟩ := Option.bind_eq_some_iff.mp hq
  obtain ⟨eoa2, eta2⟩ := jw_rc_spec ea2
  obtain ⟨w4, h3, ew4, hq⟩ := jw_b2_spec hq
  refine jw_callV (As := []) (S := []) (a := a2) (v := none) dX12_patternFault_6 mt_X12_loadTape in_X12_loadTape se_X12_loadTape lk_X12_679 (c_X12_loadTape ew4) eta2 (by decide) rfl rfl (by decide) (Nat.le_of_ble_eq_true rfl) (by cases eoa2; rfl) ?_
  refine jw_aload_n dX12_patternFault_9 (o := (some x0)) rfl ?_
  obtain ⟨a5, ea5, hq⟩ := Option.bind_eq_some_iff.mp hq
  obtain ⟨eoa5, eta5⟩ := jw_rc_spec ea5
  obtain ⟨w7, h6, ew7, hq⟩ := jw_b2_spec hq
  refine jw_callV (As := []) (S := []) (a := a5) (v := some (.int w7)) dX12_patternFault_10 mt_X12_patternsFault in_X12_patternsFault se_X12_patternsFault lk_X12_685 (c_X12_patternsFault ew7) eta5 (by decide) rfl rfl (by decide) (Nat.le_of_ble_eq_true rfl) (by cases eoa5; rfl) ?_
  cases hq
  exact jw_iret (ty := .int) dX12_patternFault_13 rfl rfl

theorem c_X12_patternFault {h : jw_H} {x0 : Nat} {r : Int32} {h' : jw_H} (hq : f_X12_patternFault h x0 = some (r, h')) : jw_Con (Cond.code yX12_patternFault cX12_patternFault 1 (some .int)) yX12_patternFault 8 [.ref x0] h (.inl (some (.int r))) h' :=
  jw_con false (plainFor_of_name (by decide +kernel)) (fun z => nomatch z) (by simp [jw_ent, jw_sl0_nil, jw_sl0_int, jw_sl0_long, jw_sl0_ref, jw_sl0_rf, jw_sl0_scr, List.replicate]) (by simp [jw_sl0_nil, jw_sl0_int, jw_sl0_long, jw_sl0_ref, jw_sl0_rf, jw_sl0_scr]) (l_X12_patternFault hq)


/-! X12_run -/
noncomputable def g_X12_run_b35 (h : jw_H) (t0 : Int32) : Option (Int32 × jw_H) :=
 some (t0, h)

noncomputable def g_X12_run_b17 (h : jw_H) (x0 : Nat) (t0 : Nat) (t1 : Int32) : Option (Int32 × jw_H) :=
 (jw_pI h 12 (some t0) 0 t1).bind fun h1 =>
 (jw_gI h1 12 (some x0) 0).bind fun v2 =>
 if v2 ≤ 0 then ((jw_rc h1 12 (some x0)).bind fun a4 =>
 jw_b2 (f_X12_doAll h1 a4) fun w6 h5 =>
 g_X12_run_b35  h5 w6)
 else (g_X12_run_b35  h1 (0 : Int32))

noncomputable def f_X12_run (h : jw_H) (x0 : Nat) : Option (Int32 × jw_H) :=
 (jw_rc h 12 (some x0)).bind fun a1 =>
 jw_b2 (f_X12_loadTape h a1) fun w3 h2 =>
 (jw_rc h2 12 (some x0)).bind fun a4 =>
 jw_b2 (f_X12_ordersFault h2 a4) fun w6 h5 =>
 if w6 < 0 then (g_X12_run_b17  h5 x0 x0 (0 : Int32))
 else (g_X12_run_b17  h5 x0 x0 (1 : Int32))

set_option maxRecDepth 100000 in
set_option maxHeartbeats 4000000 in
theorem l_X12_run_b35 {hi : jw_H} {h : jw_H} {t0 : Int32} {r : Int32} {h' : jw_H} (hq : g_X12_run_b35  h t0 = some (r, h')) : jw_E 19 uX12_run hi 35 [none] [.int t0] h (.inl (some (.int r))) h' := by
  unfold g_X12_run_b35 at hq
  cases hq
  exact jw_iret (ty := .int) dX12_run_35 rfl rfl

set_option maxRecDepth 100000 in
set_option maxHeartbeats 4000000 in
theorem l_X12_run_b17 {hi : jw_H} {h : jw_H} {x0 : Nat} {t0 : Nat} {t1 : Int32} {r : Int32} {h' : jw_H} (hq : g_X12_run_b17  h x0 t0 t1 = some (r, h')) : jw_E 19 uX12_run hi 17 [some (.ref x0)] [.int t1, .ref t0] h (.inl (some (.int r))) h' := by
  unfold g_X12_run_b17 at hq
  obtain ⟨h1, eh1, hq⟩ := Option.bind_eq_some_iff.mp hq
  refine jw_putI (o := (some t0)) dX12_run_17 eh1 fl_X12_105 rfl rfl ?_
  refine jw_aload_n dX12_run_20 (o := (some x0)) rfl ?_
  obtain ⟨v2, ev2, hq⟩ := Option.bind_eq_some_iff.mp hq
  refine jw_getI (o := (some x0)) dX12_run_21 ev2 fl_X12_105 rfl ?_
  rcases jw_if hq with ⟨c3, hq⟩ | ⟨c3, hq⟩
  · refine jw_if_le_t (tgt := 31) dX12_run_24 (by decide) c3 ?_
    refine jw_aload_n dX12_run_31 (o := (some x0)) rfl ?_
    obtain ⟨a4, ea4, hq⟩ := Option.bind_eq_some_iff.mp hq
    obtain ⟨eoa4, eta4⟩ := jw_rc_spec ea4
    obtain ⟨w6, h5, ew6, hq⟩ := jw_b2_spec hq
    refine jw_callV (As := []) (S := []) (a := a4) (v := some (.int w6)) dX12_run_32 mt_X12_doAll in_X12_doAll se_X12_doAll lk_X12_688 (c_X12_doAll ew6) eta4 (by decide) rfl rfl (by decide) (Nat.le_of_ble_eq_true rfl) (by cases eoa4; rfl) ?_
    refine jw_forget [false] (L' := [none]) rfl ?_
    exact l_X12_run_b35  hq
  · refine jw_if_le_f (tgt := 31) dX12_run_24 (by decide) c3 ?_
    refine jw_iconst dX12_run_27 (v := (0 : Int32)) (by decide) ?_
    refine jw_goto (tgt := 35) dX12_run_28 (by decide) ?_
    refine jw_forget [false] (L' := [none]) rfl ?_
    exact l_X12_run_b35  hq

set_option maxRecDepth 100000 in
set_option maxHeartbeats 4000000 in
theorem l_X12_run {hi : jw_H} {h : jw_H} {x0 : Nat} {r : Int32} {h' : jw_H} (hq : f_X12_run  h x0 = some (r, h')) : jw_E 19 uX12_run hi 0 [some (.ref x0)] [] h (.inl (some (.int r))) h' := by
  unfold f_X12_run at hq
  refine jw_aload_n dX12_run_0 (o := (some x0)) rfl ?_
  obtain ⟨a1, ea1, hq⟩ := Option.bind_eq_some_iff.mp hq
  obtain ⟨eoa1, eta1⟩ := jw_rc_spec ea1
  obtain ⟨w3, h2, ew3, hq⟩ := jw_b2_spec hq
  refine jw_callV (As := []) (S := []) (a := a1) (v := none) dX12_run_1 mt_X12_loadTape in_X12_loadTape se_X12_loadTape lk_X12_679 (c_X12_loadTape ew3) eta1 (by decide) rfl rfl (by decide) (Nat.le_of_ble_eq_true rfl) (by cases eoa1; rfl) ?_
  refine jw_aload_n dX12_run_4 (o := (some x0)) rfl ?_
  refine jw_aload_n dX12_run_5 (o := (some x0)) rfl ?_
  obtain ⟨a4, ea4, hq⟩ := Option.bind_eq_some_iff.mp hq
  obtain ⟨eoa4, eta4⟩ := jw_rc_spec ea4
  obtain ⟨w6, h5, ew6, hq⟩ := jw_b2_spec hq
  refine jw_callV (As := []) (S := [.ref x0]) (a := a4) (v := some (.int w6)) dX12_run_6 mt_X12_ordersFault in_X12_ordersFault se_X12_ordersFault lk_X12_682 (c_X12_ordersFault ew6) eta4 (by decide) rfl rfl (by decide) (Nat.le_of_ble_eq_true rfl) (by cases eoa4; rfl) ?_
  rcases jw_if hq with ⟨c7, hq⟩ | ⟨c7, hq⟩
  · refine jw_if_lt_t (tgt := 16) dX12_run_9 (by decide) c7 ?_
    refine jw_iconst dX12_run_16 (v := (0 : Int32)) (by decide) ?_
    exact l_X12_run_b17  hq
  · refine jw_if_lt_f (tgt := 16) dX12_run_9 (by decide) c7 ?_
    refine jw_iconst dX12_run_12 (v := (1 : Int32)) (by decide) ?_
    refine jw_goto (tgt := 17) dX12_run_13 (by decide) ?_
    exact l_X12_run_b17  hq

theorem c_X12_run {h : jw_H} {x0 : Nat} {r : Int32} {h' : jw_H} (hq : f_X12_run h x0 = some (r, h')) : jw_Con (Cond.code yX12_run cX12_run 1 (some .int)) yX12_run 19 [.ref x0] h (.inl (some (.int r))) h' :=
  jw_con false (plainFor_of_name (by decide +kernel)) (fun z => nomatch z) (by simp [jw_ent, jw_sl0_nil, jw_sl0_int, jw_sl0_long, jw_sl0_ref, jw_sl0_rf, jw_sl0_scr, List.replicate]) (by simp [jw_sl0_nil, jw_sl0_int, jw_sl0_long, jw_sl0_ref, jw_sl0_rf, jw_sl0_scr]) (l_X12_run hq)


/-! X12_isFour -/
noncomputable def g_X12_isFour_b14 (h : jw_H) (t0 : Int32) : Option (Int32 × jw_H) :=
 (jw_rb t0).bind fun v1 =>
 some (t0, h)

noncomputable def g_X12_isFour_b13 (h : jw_H)  : Option (Int32 × jw_H) :=
 g_X12_isFour_b14  h (0 : Int32)

noncomputable def f_X12_isFour (h : jw_H) (x0 : Int32) : Option (Int32 × jw_H) :=
 if x0 < 0 then (g_X12_isFour_b13  h )
 else (if (4 : Int32) ≤ x0 then (g_X12_isFour_b13  h )
 else (g_X12_isFour_b14  h (1 : Int32)))

set_option maxRecDepth 100000 in
set_option maxHeartbeats 4000000 in
theorem l_X12_isFour_b14 {hi : jw_H} {h : jw_H} {t0 : Int32} {r : Int32} {h' : jw_H} (hq : g_X12_isFour_b14  h t0 = some (r, h')) : jw_E 0 uX12_isFour hi 14 [none] [.int t0] h (.inl (some (.int r))) h' := by
  unfold g_X12_isFour_b14 at hq
  obtain ⟨v1, ev1, hq⟩ := Option.bind_eq_some_iff.mp hq
  cases hq
  exact jw_iret (ty := .boolean) dX12_isFour_14 rfl (jw_rb_spec ev1)

set_option maxRecDepth 100000 in
set_option maxHeartbeats 4000000 in
theorem l_X12_isFour_b13 {hi : jw_H} {h : jw_H}  {r : Int32} {h' : jw_H} (hq : g_X12_isFour_b13  h  = some (r, h')) : jw_E 0 uX12_isFour hi 13 [none] [] h (.inl (some (.int r))) h' := by
  unfold g_X12_isFour_b13 at hq
  refine jw_iconst dX12_isFour_13 (v := (0 : Int32)) (by decide) ?_
  exact l_X12_isFour_b14  hq

set_option maxRecDepth 100000 in
set_option maxHeartbeats 4000000 in
theorem l_X12_isFour {hi : jw_H} {h : jw_H} {x0 : Int32} {r : Int32} {h' : jw_H} (hq : f_X12_isFour  h x0 = some (r, h')) : jw_E 0 uX12_isFour hi 0 [some (.int x0)] [] h (.inl (some (.int r))) h' := by
  unfold f_X12_isFour at hq
  refine jw_iload_n dX12_isFour_0 rfl ?_
  rcases jw_if hq with ⟨c1, hq⟩ | ⟨c1, hq⟩
  · refine jw_if_lt_t (tgt := 13) dX12_isFour_1 (by decide) c1 ?_
    refine jw_forget [false] (L' := [none]) rfl ?_
    exact l_X12_isFour_b13  hq
  · refine jw_if_lt_f (tgt := 13) dX12_isFour_1 (by decide) c1 ?_
    refine jw_iload_n dX12_isFour_4 rfl ?_
    refine jw_iconst dX12_isFour_5 (v := (4 : Int32)) (by decide) ?_
    rcases jw_if hq with ⟨c2, hq⟩ | ⟨c2, hq⟩
    · refine jw_icmp_ge_t (tgt := 13) dX12_isFour_6 (by decide) c2 ?_
      refine jw_forget [false] (L' := [none]) rfl ?_
      exact l_X12_isFour_b13  hq
    · refine jw_icmp_ge_f (tgt := 13) dX12_isFour_6 (by decide) c2 ?_
      refine jw_iconst dX12_isFour_9 (v := (1 : Int32)) (by decide) ?_
      refine jw_goto (tgt := 14) dX12_isFour_10 (by decide) ?_
      refine jw_forget [false] (L' := [none]) rfl ?_
      exact l_X12_isFour_b14  hq

theorem c_X12_isFour {h : jw_H} {x0 : Int32} {r : Int32} {h' : jw_H} (hq : f_X12_isFour h x0 = some (r, h')) : jw_Con (Cond.code yX12_isFour cX12_isFour 1 (some .boolean)) yX12_isFour 0 [.int x0] h (.inl (some (.int r))) h' :=
  jw_con false (plainFor_of_name (by decide +kernel)) (fun z => nomatch z) (by simp [jw_ent, jw_sl0_nil, jw_sl0_int, jw_sl0_long, jw_sl0_ref, jw_sl0_rf, jw_sl0_scr, List.replicate]) (by simp [jw_sl0_nil, jw_sl0_int, jw_sl0_long, jw_sl0_ref, jw_sl0_rf, jw_sl0_scr]) (l_X12_isFour hq)


/-! X12_keep -/
noncomputable def g_X12_keep_b42 (k42 : jw_H → Nat → Int32 → Int32 → Option (Int32 × jw_H)) (h : jw_H) (x0 : Nat) (x1 : Int32) (x2 : Int32) : Option (Int32 × jw_H) :=
 (jw_gI h 12 (some x0) 2).bind fun v1 =>
 if v1 ≤ x2 then ((jw_gR h 12 (some x0) 4).bind fun v3 =>
 (jw_gI h 12 (some x0) 2).bind fun v4 =>
 (jw_si h 20 v3 x1 v4).bind fun h5 =>
 (jw_gR h5 12 (some x0) 5).bind fun v6 =>
 (jw_si h5 22 v6 x1 (vp_nar .boolean (1 : Int32))).bind fun h7 =>
 (jw_gI h7 12 (some x0) 2).bind fun v8 =>
 some (v8, h7))
 else ((jw_gR h 12 (some x0) 3).bind fun v9 =>
 (jw_gR h 12 (some x0) 1).bind fun v10 =>
 (jw_ai h 20 v10 x2).bind fun v11 =>
 (jw_si h 20 v9 (((60 : Int32) * x1) + x2) v11).bind fun h12 =>
 k42 h12 x0 x1 (x2 + (1 : Int32)))

noncomputable def f_X12_keep_b42 (n : Nat) : jw_H → Nat → Int32 → Int32 → Option (Int32 × jw_H) :=
 Nat.rec (fun _ _ _ _ => none) (fun _ k42 => g_X12_keep_b42 k42) n

noncomputable def g_X12_keep_b28 (h : jw_H) (x0 : Nat) (x1 : Int32) (t0 : Nat) (t1 : Int32) : Option (Int32 × jw_H) :=
 (jw_pI h 12 (some t0) 0 t1).bind fun h1 =>
 (jw_gI h1 12 (some x0) 0).bind fun v2 =>
 if v2 ≤ 0 then (f_X12_keep_b42  jw_FU h1 x0 x1 (0 : Int32))
 else (some ((0 : Int32), h1))

noncomputable def f_X12_keep (h : jw_H) (x0 : Nat) (x1 : Int32) : Option (Int32 × jw_H) :=
 (jw_rc h 12 (some x0)).bind fun a1 =>
 jw_b2 (f_X12_loadTape h a1) fun w3 h2 =>
 jw_b2 (f_X12_isFour h2 x1) fun w5 h4 =>
 if w5 = 0 then (g_X12_keep_b28  h4 x0 x1 x0 (1 : Int32))
 else ((jw_rc h4 12 (some x0)).bind fun a7 =>
 jw_b2 (f_X12_ordersFault h4 a7) fun w9 h8 =>
 if w9 < 0 then (g_X12_keep_b28  h8 x0 x1 x0 (0 : Int32))
 else (g_X12_keep_b28  h8 x0 x1 x0 (2 : Int32)))

set_option maxRecDepth 100000 in
set_option maxHeartbeats 4000000 in
theorem l_X12_keep_b42g {hi : jw_H} {k42 : jw_H → Nat → Int32 → Int32 → Option (Int32 × jw_H)} (hk42 : ∀ (h : jw_H) (x0 : Nat) (x1 : Int32) (x2 : Int32) (r : Int32) (h' : jw_H), k42 h x0 x1 x2 = some (r, h') → jw_E 14 uX12_keep hi 42 [some (.ref x0), some (.int x1), some (.int x2)] [] h (.inl (some (.int r))) h') {h : jw_H} {x0 : Nat} {x1 : Int32} {x2 : Int32} {r : Int32} {h' : jw_H} (hq : g_X12_keep_b42 k42 h x0 x1 x2 = some (r, h')) : jw_E 14 uX12_keep hi 42 [some (.ref x0), some (.int x1), some (.int x2)] [] h (.inl (some (.int r))) h' := by
  unfold g_X12_keep_b42 at hq
  refine jw_iload_n dX12_keep_42 rfl ?_
  refine jw_aload_n dX12_keep_43 (o := (some x0)) rfl ?_
  obtain ⟨v1, ev1, hq⟩ := Option.bind_eq_some_iff.mp hq
  refine jw_getI (o := (some x0)) dX12_keep_44 ev1 fl_X12_143 rfl ?_
  rcases jw_if hq with ⟨c2, hq⟩ | ⟨c2, hq⟩
  · refine jw_icmp_ge_t (tgt := 73) dX12_keep_47 (by decide) c2 ?_
    refine jw_aload_n dX12_keep_73 (o := (some x0)) rfl ?_
    obtain ⟨v3, ev3, hq⟩ := Option.bind_eq_some_iff.mp hq
    refine jw_getR (o := (some x0)) dX12_keep_74 ev3 fl_X12_16 rfl ?_
    refine jw_iload_n dX12_keep_77 rfl ?_
    refine jw_aload_n dX12_keep_78 (o := (some x0)) rfl ?_
    obtain ⟨v4, ev4, hq⟩ := Option.bind_eq_some_iff.mp hq
    refine jw_getI (o := (some x0)) dX12_keep_79 ev4 fl_X12_143 rfl ?_
    obtain ⟨h5, eh5, hq⟩ := Option.bind_eq_some_iff.mp hq
    refine jw_iast (o := v3) dX12_keep_82 eh5 ?_
    refine jw_aload_n dX12_keep_83 (o := (some x0)) rfl ?_
    obtain ⟨v6, ev6, hq⟩ := Option.bind_eq_some_iff.mp hq
    refine jw_getR (o := (some x0)) dX12_keep_84 ev6 fl_X12_19 rfl ?_
    refine jw_iload_n dX12_keep_87 rfl ?_
    refine jw_iconst dX12_keep_88 (v := (1 : Int32)) (by decide) ?_
    obtain ⟨h7, eh7, hq⟩ := Option.bind_eq_some_iff.mp hq
    refine jw_zast (o := v6) rfl dX12_keep_89 eh7 ?_
    refine jw_aload_n dX12_keep_90 (o := (some x0)) rfl ?_
    obtain ⟨v8, ev8, hq⟩ := Option.bind_eq_some_iff.mp hq
    refine jw_getI (o := (some x0)) dX12_keep_91 ev8 fl_X12_143 rfl ?_
    cases hq
    exact jw_iret (ty := .int) dX12_keep_94 rfl rfl
  · refine jw_icmp_ge_f (tgt := 73) dX12_keep_47 (by decide) c2 ?_
    refine jw_aload_n dX12_keep_50 (o := (some x0)) rfl ?_
    obtain ⟨v9, ev9, hq⟩ := Option.bind_eq_some_iff.mp hq
    refine jw_getR (o := (some x0)) dX12_keep_51 ev9 fl_X12_13 rfl ?_
    refine jw_bipush dX12_keep_54 (v := (60 : Int32)) (by decide) ?_
    refine jw_iload_n dX12_keep_56 rfl ?_
    refine jw_imul dX12_keep_57 ?_
    refine jw_iload_n dX12_keep_58 rfl ?_
    refine jw_iadd dX12_keep_59 ?_
    refine jw_aload_n dX12_keep_60 (o := (some x0)) rfl ?_
    obtain ⟨v10, ev10, hq⟩ := Option.bind_eq_some_iff.mp hq
    refine jw_getR (o := (some x0)) dX12_keep_61 ev10 fl_X12_7 rfl ?_
    refine jw_iload_n dX12_keep_64 rfl ?_
    obtain ⟨v11, ev11, hq⟩ := Option.bind_eq_some_iff.mp hq
    refine jw_iald (o := v10) dX12_keep_65 ev11 ?_
    obtain ⟨h12, eh12, hq⟩ := Option.bind_eq_some_iff.mp hq
    refine jw_iast (o := v9) dX12_keep_66 eh12 ?_
    refine jw_iinc (L' := [some (.ref x0), some (.int x1), some (.int (x2 + (1 : Int32)))]) dX12_keep_67 rfl (v := (1 : Int32)) (by decide) (Nat.le_of_ble_eq_true rfl) rfl ?_
    refine jw_goto (tgt := 42) dX12_keep_70 (by decide) ?_
    exact hk42 _ _ _ _ _ _ hq

theorem l_X12_keep_b42 {hi : jw_H} : ∀ (n : Nat) (h : jw_H) (x0 : Nat) (x1 : Int32) (x2 : Int32) (r : Int32) (h' : jw_H), f_X12_keep_b42  n h x0 x1 x2 = some (r, h') → jw_E 14 uX12_keep hi 42 [some (.ref x0), some (.int x1), some (.int x2)] [] h (.inl (some (.int r))) h' := by
  intro n
  induction n with
  | zero => intro h x0 x1 x2 r h' hq; exact nomatch hq
  | succ n ih => intro h x0 x1 x2 r h' hq; exact l_X12_keep_b42g ih hq

set_option maxRecDepth 100000 in
set_option maxHeartbeats 4000000 in
theorem l_X12_keep_b28 {hi : jw_H} {h : jw_H} {x0 : Nat} {x1 : Int32} {t0 : Nat} {t1 : Int32} {r : Int32} {h' : jw_H} (hq : g_X12_keep_b28  h x0 x1 t0 t1 = some (r, h')) : jw_E 14 uX12_keep hi 28 [some (.ref x0), some (.int x1), none] [.int t1, .ref t0] h (.inl (some (.int r))) h' := by
  unfold g_X12_keep_b28 at hq
  obtain ⟨h1, eh1, hq⟩ := Option.bind_eq_some_iff.mp hq
  refine jw_putI (o := (some t0)) dX12_keep_28 eh1 fl_X12_105 rfl rfl ?_
  refine jw_aload_n dX12_keep_31 (o := (some x0)) rfl ?_
  obtain ⟨v2, ev2, hq⟩ := Option.bind_eq_some_iff.mp hq
  refine jw_getI (o := (some x0)) dX12_keep_32 ev2 fl_X12_105 rfl ?_
  rcases jw_if hq with ⟨c3, hq⟩ | ⟨c3, hq⟩
  · refine jw_if_le_t (tgt := 40) dX12_keep_35 (by decide) c3 ?_
    refine jw_iconst dX12_keep_40 (v := (0 : Int32)) (by decide) ?_
    refine jw_istore_n (L' := [some (.ref x0), some (.int x1), some (.int (0 : Int32))]) dX12_keep_41 (Nat.le_of_ble_eq_true rfl) rfl ?_
    exact l_X12_keep_b42  jw_FU _ _ _ _ _ _ hq
  · refine jw_if_le_f (tgt := 40) dX12_keep_35 (by decide) c3 ?_
    refine jw_iconst dX12_keep_38 (v := (0 : Int32)) (by decide) ?_
    cases hq
    exact jw_iret (ty := .int) dX12_keep_39 rfl rfl

set_option maxRecDepth 100000 in
set_option maxHeartbeats 4000000 in
theorem l_X12_keep {hi : jw_H} {h : jw_H} {x0 : Nat} {x1 : Int32} {r : Int32} {h' : jw_H} (hq : f_X12_keep  h x0 x1 = some (r, h')) : jw_E 14 uX12_keep hi 0 [some (.ref x0), some (.int x1), none] [] h (.inl (some (.int r))) h' := by
  unfold f_X12_keep at hq
  refine jw_aload_n dX12_keep_0 (o := (some x0)) rfl ?_
  obtain ⟨a1, ea1, hq⟩ := Option.bind_eq_some_iff.mp hq
  obtain ⟨eoa1, eta1⟩ := jw_rc_spec ea1
  obtain ⟨w3, h2, ew3, hq⟩ := jw_b2_spec hq
  refine jw_callV (As := []) (S := []) (a := a1) (v := none) dX12_keep_1 mt_X12_loadTape in_X12_loadTape se_X12_loadTape lk_X12_679 (c_X12_loadTape ew3) eta1 (by decide) rfl rfl (by decide) (Nat.le_of_ble_eq_true rfl) (by cases eoa1; rfl) ?_
  refine jw_aload_n dX12_keep_4 (o := (some x0)) rfl ?_
  refine jw_iload_n dX12_keep_5 rfl ?_
  obtain ⟨w5, h4, ew5, hq⟩ := jw_b2_spec hq
  refine jw_callS (As := [.int x1]) (S := [.ref x0]) (v := some (.int w5)) dX12_keep_6 mt_X12_isFour st_X12_isFour lk_X12_691 (c_X12_isFour ew5) rfl (by decide) (Nat.le_of_ble_eq_true rfl) rfl ?_
  rcases jw_if hq with ⟨c6, hq⟩ | ⟨c6, hq⟩
  · refine jw_if_ne_f (tgt := 16) dX12_keep_9 (by decide) c6 ?_
    refine jw_iconst dX12_keep_12 (v := (1 : Int32)) (by decide) ?_
    refine jw_goto (tgt := 28) dX12_keep_13 (by decide) ?_
    exact l_X12_keep_b28  hq
  · refine jw_if_ne_t (tgt := 16) dX12_keep_9 (by decide) c6 ?_
    refine jw_aload_n dX12_keep_16 (o := (some x0)) rfl ?_
    obtain ⟨a7, ea7, hq⟩ := Option.bind_eq_some_iff.mp hq
    obtain ⟨eoa7, eta7⟩ := jw_rc_spec ea7
    obtain ⟨w9, h8, ew9, hq⟩ := jw_b2_spec hq
    refine jw_callV (As := []) (S := [.ref x0]) (a := a7) (v := some (.int w9)) dX12_keep_17 mt_X12_ordersFault in_X12_ordersFault se_X12_ordersFault lk_X12_682 (c_X12_ordersFault ew9) eta7 (by decide) rfl rfl (by decide) (Nat.le_of_ble_eq_true rfl) (by cases eoa7; rfl) ?_
    rcases jw_if hq with ⟨c10, hq⟩ | ⟨c10, hq⟩
    · refine jw_if_lt_t (tgt := 27) dX12_keep_20 (by decide) c10 ?_
      refine jw_iconst dX12_keep_27 (v := (0 : Int32)) (by decide) ?_
      exact l_X12_keep_b28  hq
    · refine jw_if_lt_f (tgt := 27) dX12_keep_20 (by decide) c10 ?_
      refine jw_iconst dX12_keep_23 (v := (2 : Int32)) (by decide) ?_
      refine jw_goto (tgt := 28) dX12_keep_24 (by decide) ?_
      exact l_X12_keep_b28  hq

theorem c_X12_keep {h : jw_H} {x0 : Nat} {x1 : Int32} {r : Int32} {h' : jw_H} (hq : f_X12_keep h x0 x1 = some (r, h')) : jw_Con (Cond.code yX12_keep cX12_keep 3 (some .int)) yX12_keep 14 [.ref x0, .int x1] h (.inl (some (.int r))) h' :=
  jw_con false (plainFor_of_name (by decide +kernel)) (fun z => nomatch z) (by simp [jw_ent, jw_sl0_nil, jw_sl0_int, jw_sl0_long, jw_sl0_ref, jw_sl0_rf, jw_sl0_scr, List.replicate]) (by simp [jw_sl0_nil, jw_sl0_int, jw_sl0_long, jw_sl0_ref, jw_sl0_rf, jw_sl0_scr]) (l_X12_keep hq)


/-! X12_play -/
noncomputable def g_X12_play_b26 (h : jw_H) (x0 : Nat) (x1 : Int32) (t0 : Nat) (t1 : Int32) : Option (Int32 × jw_H) :=
 (jw_pI h 12 (some t0) 0 t1).bind fun h1 =>
 (jw_gI h1 12 (some x0) 0).bind fun v2 =>
 if v2 ≤ 0 then ((jw_rc h1 12 (some x0)).bind fun a4 =>
 jw_b2 (f_X12_loadScript h1 a4 x1) fun w6 h5 =>
 (jw_rc h5 12 (some x0)).bind fun a7 =>
 jw_b2 (f_X12_doAll h5 a7) fun w9 h8 =>
 some (w9, h8))
 else (some ((0 : Int32), h1))

noncomputable def f_X12_play (h : jw_H) (x0 : Nat) (x1 : Int32) : Option (Int32 × jw_H) :=
 jw_b2 (f_X12_isFour h x1) fun w2 h1 =>
 if w2 = 0 then (g_X12_play_b26  h1 x0 x1 x0 (1 : Int32))
 else ((jw_gR h1 12 (some x0) 5).bind fun v4 =>
 (jw_ai h1 22 v4 x1).bind fun v5 =>
 if v5 = 0 then (g_X12_play_b26  h1 x0 x1 x0 (2 : Int32))
 else (g_X12_play_b26  h1 x0 x1 x0 (0 : Int32)))

set_option maxRecDepth 100000 in
set_option maxHeartbeats 4000000 in
theorem l_X12_play_b26 {hi : jw_H} {h : jw_H} {x0 : Nat} {x1 : Int32} {t0 : Nat} {t1 : Int32} {r : Int32} {h' : jw_H} (hq : g_X12_play_b26  h x0 x1 t0 t1 = some (r, h')) : jw_E 19 uX12_play hi 26 [some (.ref x0), some (.int x1)] [.int t1, .ref t0] h (.inl (some (.int r))) h' := by
  unfold g_X12_play_b26 at hq
  obtain ⟨h1, eh1, hq⟩ := Option.bind_eq_some_iff.mp hq
  refine jw_putI (o := (some t0)) dX12_play_26 eh1 fl_X12_105 rfl rfl ?_
  refine jw_aload_n dX12_play_29 (o := (some x0)) rfl ?_
  obtain ⟨v2, ev2, hq⟩ := Option.bind_eq_some_iff.mp hq
  refine jw_getI (o := (some x0)) dX12_play_30 ev2 fl_X12_105 rfl ?_
  rcases jw_if hq with ⟨c3, hq⟩ | ⟨c3, hq⟩
  · refine jw_if_le_t (tgt := 38) dX12_play_33 (by decide) c3 ?_
    refine jw_aload_n dX12_play_38 (o := (some x0)) rfl ?_
    refine jw_iload_n dX12_play_39 rfl ?_
    obtain ⟨a4, ea4, hq⟩ := Option.bind_eq_some_iff.mp hq
    obtain ⟨eoa4, eta4⟩ := jw_rc_spec ea4
    obtain ⟨w6, h5, ew6, hq⟩ := jw_b2_spec hq
    refine jw_callV (As := [.int x1]) (S := []) (a := a4) (v := none) dX12_play_40 mt_X12_loadScript in_X12_loadScript se_X12_loadScript lk_X12_694 (c_X12_loadScript ew6) eta4 (by decide) rfl rfl (by decide) (Nat.le_of_ble_eq_true rfl) (by cases eoa4; rfl) ?_
    refine jw_aload_n dX12_play_43 (o := (some x0)) rfl ?_
    obtain ⟨a7, ea7, hq⟩ := Option.bind_eq_some_iff.mp hq
    obtain ⟨eoa7, eta7⟩ := jw_rc_spec ea7
    obtain ⟨w9, h8, ew9, hq⟩ := jw_b2_spec hq
    refine jw_callV (As := []) (S := []) (a := a7) (v := some (.int w9)) dX12_play_44 mt_X12_doAll in_X12_doAll se_X12_doAll lk_X12_688 (c_X12_doAll ew9) eta7 (by decide) rfl rfl (by decide) (Nat.le_of_ble_eq_true rfl) (by cases eoa7; rfl) ?_
    cases hq
    exact jw_iret (ty := .int) dX12_play_47 rfl rfl
  · refine jw_if_le_f (tgt := 38) dX12_play_33 (by decide) c3 ?_
    refine jw_iconst dX12_play_36 (v := (0 : Int32)) (by decide) ?_
    cases hq
    exact jw_iret (ty := .int) dX12_play_37 rfl rfl

set_option maxRecDepth 100000 in
set_option maxHeartbeats 4000000 in
theorem l_X12_play {hi : jw_H} {h : jw_H} {x0 : Nat} {x1 : Int32} {r : Int32} {h' : jw_H} (hq : f_X12_play  h x0 x1 = some (r, h')) : jw_E 19 uX12_play hi 0 [some (.ref x0), some (.int x1)] [] h (.inl (some (.int r))) h' := by
  unfold f_X12_play at hq
  refine jw_aload_n dX12_play_0 (o := (some x0)) rfl ?_
  refine jw_iload_n dX12_play_1 rfl ?_
  obtain ⟨w2, h1, ew2, hq⟩ := jw_b2_spec hq
  refine jw_callS (As := [.int x1]) (S := [.ref x0]) (v := some (.int w2)) dX12_play_2 mt_X12_isFour st_X12_isFour lk_X12_691 (c_X12_isFour ew2) rfl (by decide) (Nat.le_of_ble_eq_true rfl) rfl ?_
  rcases jw_if hq with ⟨c3, hq⟩ | ⟨c3, hq⟩
  · refine jw_if_ne_f (tgt := 12) dX12_play_5 (by decide) c3 ?_
    refine jw_iconst dX12_play_8 (v := (1 : Int32)) (by decide) ?_
    refine jw_goto (tgt := 26) dX12_play_9 (by decide) ?_
    exact l_X12_play_b26  hq
  · refine jw_if_ne_t (tgt := 12) dX12_play_5 (by decide) c3 ?_
    refine jw_aload_n dX12_play_12 (o := (some x0)) rfl ?_
    obtain ⟨v4, ev4, hq⟩ := Option.bind_eq_some_iff.mp hq
    refine jw_getR (o := (some x0)) dX12_play_13 ev4 fl_X12_19 rfl ?_
    refine jw_iload_n dX12_play_16 rfl ?_
    obtain ⟨v5, ev5, hq⟩ := Option.bind_eq_some_iff.mp hq
    refine jw_zald (o := v4) dX12_play_17 ev5 ?_
    rcases jw_if hq with ⟨c6, hq⟩ | ⟨c6, hq⟩
    · refine jw_if_ne_f (tgt := 25) dX12_play_18 (by decide) c6 ?_
      refine jw_iconst dX12_play_21 (v := (2 : Int32)) (by decide) ?_
      refine jw_goto (tgt := 26) dX12_play_22 (by decide) ?_
      exact l_X12_play_b26  hq
    · refine jw_if_ne_t (tgt := 25) dX12_play_18 (by decide) c6 ?_
      refine jw_iconst dX12_play_25 (v := (0 : Int32)) (by decide) ?_
      exact l_X12_play_b26  hq

theorem c_X12_play {h : jw_H} {x0 : Nat} {x1 : Int32} {r : Int32} {h' : jw_H} (hq : f_X12_play h x0 x1 = some (r, h')) : jw_Con (Cond.code yX12_play cX12_play 2 (some .int)) yX12_play 19 [.ref x0, .int x1] h (.inl (some (.int r))) h' :=
  jw_con false (plainFor_of_name (by decide +kernel)) (fun z => nomatch z) (by simp [jw_ent, jw_sl0_nil, jw_sl0_int, jw_sl0_long, jw_sl0_ref, jw_sl0_rf, jw_sl0_scr, List.replicate]) (by simp [jw_sl0_nil, jw_sl0_int, jw_sl0_long, jw_sl0_ref, jw_sl0_rf, jw_sl0_scr]) (l_X12_play hq)


/-! X12_stream -/
noncomputable def g_X12_stream_b26 (h : jw_H) (x0 : Nat) (x1 : Int32) (t0 : Nat) (t1 : Int32) : Option (Int32 × jw_H) :=
 (jw_pI h 12 (some t0) 0 t1).bind fun h1 =>
 (jw_gI h1 12 (some x0) 0).bind fun v2 =>
 if v2 ≤ 0 then ((jw_rc h1 12 (some x0)).bind fun a4 =>
 jw_b2 (f_X12_loadScript h1 a4 x1) fun w6 h5 =>
 (jw_rc h5 12 (some x0)).bind fun a7 =>
 jw_b2 (f_X12_playLines h5 a7) fun w9 h8 =>
 some (w9, h8))
 else (some ((0 : Int32), h1))

noncomputable def f_X12_stream (h : jw_H) (x0 : Nat) (x1 : Int32) : Option (Int32 × jw_H) :=
 jw_b2 (f_X12_isFour h x1) fun w2 h1 =>
 if w2 = 0 then (g_X12_stream_b26  h1 x0 x1 x0 (1 : Int32))
 else ((jw_gR h1 12 (some x0) 5).bind fun v4 =>
 (jw_ai h1 22 v4 x1).bind fun v5 =>
 if v5 = 0 then (g_X12_stream_b26  h1 x0 x1 x0 (2 : Int32))
 else (g_X12_stream_b26  h1 x0 x1 x0 (0 : Int32)))

set_option maxRecDepth 100000 in
set_option maxHeartbeats 4000000 in
theorem l_X12_stream_b26 {hi : jw_H} {h : jw_H} {x0 : Nat} {x1 : Int32} {t0 : Nat} {t1 : Int32} {r : Int32} {h' : jw_H} (hq : g_X12_stream_b26  h x0 x1 t0 t1 = some (r, h')) : jw_E 20 uX12_stream hi 26 [some (.ref x0), some (.int x1)] [.int t1, .ref t0] h (.inl (some (.int r))) h' := by
  unfold g_X12_stream_b26 at hq
  obtain ⟨h1, eh1, hq⟩ := Option.bind_eq_some_iff.mp hq
  refine jw_putI (o := (some t0)) dX12_stream_26 eh1 fl_X12_105 rfl rfl ?_
  refine jw_aload_n dX12_stream_29 (o := (some x0)) rfl ?_
  obtain ⟨v2, ev2, hq⟩ := Option.bind_eq_some_iff.mp hq
  refine jw_getI (o := (some x0)) dX12_stream_30 ev2 fl_X12_105 rfl ?_
  rcases jw_if hq with ⟨c3, hq⟩ | ⟨c3, hq⟩
  · refine jw_if_le_t (tgt := 38) dX12_stream_33 (by decide) c3 ?_
    refine jw_aload_n dX12_stream_38 (o := (some x0)) rfl ?_
    refine jw_iload_n dX12_stream_39 rfl ?_
    obtain ⟨a4, ea4, hq⟩ := Option.bind_eq_some_iff.mp hq
    obtain ⟨eoa4, eta4⟩ := jw_rc_spec ea4
    obtain ⟨w6, h5, ew6, hq⟩ := jw_b2_spec hq
    refine jw_callV (As := [.int x1]) (S := []) (a := a4) (v := none) dX12_stream_40 mt_X12_loadScript in_X12_loadScript se_X12_loadScript lk_X12_694 (c_X12_loadScript ew6) eta4 (by decide) rfl rfl (by decide) (Nat.le_of_ble_eq_true rfl) (by cases eoa4; rfl) ?_
    refine jw_aload_n dX12_stream_43 (o := (some x0)) rfl ?_
    obtain ⟨a7, ea7, hq⟩ := Option.bind_eq_some_iff.mp hq
    obtain ⟨eoa7, eta7⟩ := jw_rc_spec ea7
    obtain ⟨w9, h8, ew9, hq⟩ := jw_b2_spec hq
    refine jw_callV (As := []) (S := []) (a := a7) (v := some (.int w9)) dX12_stream_44 mt_X12_playLines in_X12_playLines se_X12_playLines lk_X12_697 (c_X12_playLines ew9) eta7 (by decide) rfl rfl (by decide) (Nat.le_of_ble_eq_true rfl) (by cases eoa7; rfl) ?_
    cases hq
    exact jw_iret (ty := .int) dX12_stream_47 rfl rfl
  · refine jw_if_le_f (tgt := 38) dX12_stream_33 (by decide) c3 ?_
    refine jw_iconst dX12_stream_36 (v := (0 : Int32)) (by decide) ?_
    cases hq
    exact jw_iret (ty := .int) dX12_stream_37 rfl rfl

set_option maxRecDepth 100000 in
set_option maxHeartbeats 4000000 in
theorem l_X12_stream {hi : jw_H} {h : jw_H} {x0 : Nat} {x1 : Int32} {r : Int32} {h' : jw_H} (hq : f_X12_stream  h x0 x1 = some (r, h')) : jw_E 20 uX12_stream hi 0 [some (.ref x0), some (.int x1)] [] h (.inl (some (.int r))) h' := by
  unfold f_X12_stream at hq
  refine jw_aload_n dX12_stream_0 (o := (some x0)) rfl ?_
  refine jw_iload_n dX12_stream_1 rfl ?_
  obtain ⟨w2, h1, ew2, hq⟩ := jw_b2_spec hq
  refine jw_callS (As := [.int x1]) (S := [.ref x0]) (v := some (.int w2)) dX12_stream_2 mt_X12_isFour st_X12_isFour lk_X12_691 (c_X12_isFour ew2) rfl (by decide) (Nat.le_of_ble_eq_true rfl) rfl ?_
  rcases jw_if hq with ⟨c3, hq⟩ | ⟨c3, hq⟩
  · refine jw_if_ne_f (tgt := 12) dX12_stream_5 (by decide) c3 ?_
    refine jw_iconst dX12_stream_8 (v := (1 : Int32)) (by decide) ?_
    refine jw_goto (tgt := 26) dX12_stream_9 (by decide) ?_
    exact l_X12_stream_b26  hq
  · refine jw_if_ne_t (tgt := 12) dX12_stream_5 (by decide) c3 ?_
    refine jw_aload_n dX12_stream_12 (o := (some x0)) rfl ?_
    obtain ⟨v4, ev4, hq⟩ := Option.bind_eq_some_iff.mp hq
    refine jw_getR (o := (some x0)) dX12_stream_13 ev4 fl_X12_19 rfl ?_
    refine jw_iload_n dX12_stream_16 rfl ?_
    obtain ⟨v5, ev5, hq⟩ := Option.bind_eq_some_iff.mp hq
    refine jw_zald (o := v4) dX12_stream_17 ev5 ?_
    rcases jw_if hq with ⟨c6, hq⟩ | ⟨c6, hq⟩
    · refine jw_if_ne_f (tgt := 25) dX12_stream_18 (by decide) c6 ?_
      refine jw_iconst dX12_stream_21 (v := (2 : Int32)) (by decide) ?_
      refine jw_goto (tgt := 26) dX12_stream_22 (by decide) ?_
      exact l_X12_stream_b26  hq
    · refine jw_if_ne_t (tgt := 25) dX12_stream_18 (by decide) c6 ?_
      refine jw_iconst dX12_stream_25 (v := (0 : Int32)) (by decide) ?_
      exact l_X12_stream_b26  hq

theorem c_X12_stream {h : jw_H} {x0 : Nat} {x1 : Int32} {r : Int32} {h' : jw_H} (hq : f_X12_stream h x0 x1 = some (r, h')) : jw_Con (Cond.code yX12_stream cX12_stream 2 (some .int)) yX12_stream 20 [.ref x0, .int x1] h (.inl (some (.int r))) h' :=
  jw_con false (plainFor_of_name (by decide +kernel)) (fun z => nomatch z) (by simp [jw_ent, jw_sl0_nil, jw_sl0_int, jw_sl0_long, jw_sl0_ref, jw_sl0_rf, jw_sl0_scr, List.replicate]) (by simp [jw_sl0_nil, jw_sl0_int, jw_sl0_long, jw_sl0_ref, jw_sl0_rf, jw_sl0_scr]) (l_X12_stream hq)


/-! X12_reason -/
noncomputable def f_X12_reason (h : jw_H) (x0 : Nat) : Option (Int32 × jw_H) :=
 (jw_pI h 12 (some x0) 0 (0 : Int32)).bind fun h1 =>
 (jw_gI h1 12 (some x0) 18).bind fun v2 =>
 some (v2, h1)

set_option maxRecDepth 100000 in
set_option maxHeartbeats 4000000 in
theorem l_X12_reason {hi : jw_H} {h : jw_H} {x0 : Nat} {r : Int32} {h' : jw_H} (hq : f_X12_reason  h x0 = some (r, h')) : jw_E 0 uX12_reason hi 0 [some (.ref x0)] [] h (.inl (some (.int r))) h' := by
  unfold f_X12_reason at hq
  refine jw_aload_n dX12_reason_0 (o := (some x0)) rfl ?_
  refine jw_iconst dX12_reason_1 (v := (0 : Int32)) (by decide) ?_
  obtain ⟨h1, eh1, hq⟩ := Option.bind_eq_some_iff.mp hq
  refine jw_putI (o := (some x0)) dX12_reason_2 eh1 fl_X12_105 rfl rfl ?_
  refine jw_aload_n dX12_reason_5 (o := (some x0)) rfl ?_
  obtain ⟨v2, ev2, hq⟩ := Option.bind_eq_some_iff.mp hq
  refine jw_getI (o := (some x0)) dX12_reason_6 ev2 fl_X12_518 rfl ?_
  cases hq
  exact jw_iret (ty := .int) dX12_reason_9 rfl rfl

theorem c_X12_reason {h : jw_H} {x0 : Nat} {r : Int32} {h' : jw_H} (hq : f_X12_reason h x0 = some (r, h')) : jw_Con (Cond.code yX12_reason cX12_reason 1 (some .int)) yX12_reason 0 [.ref x0] h (.inl (some (.int r))) h' :=
  jw_con false (plainFor_of_name (by decide +kernel)) (fun z => nomatch z) (by simp [jw_ent, jw_sl0_nil, jw_sl0_int, jw_sl0_long, jw_sl0_ref, jw_sl0_rf, jw_sl0_scr, List.replicate]) (by simp [jw_sl0_nil, jw_sl0_int, jw_sl0_long, jw_sl0_ref, jw_sl0_rf, jw_sl0_scr]) (l_X12_reason hq)


/-! X12_scriptLength -/
noncomputable def g_X12_scriptLength_b46 (h : jw_H) (t0 : Int32) : Option (Int32 × jw_H) :=
 some (t0, h)

noncomputable def g_X12_scriptLength_b13 (h : jw_H) (x0 : Nat) (x1 : Int32) (t0 : Nat) (t1 : Int32) : Option (Int32 × jw_H) :=
 (jw_pI h 12 (some t0) 0 t1).bind fun h1 =>
 (jw_gI h1 12 (some x0) 0).bind fun v2 =>
 if v2 ≤ 0 then ((jw_gR h1 12 (some x0) 5).bind fun v4 =>
 (jw_ai h1 22 v4 x1).bind fun v5 =>
 if v5 = 0 then (g_X12_scriptLength_b46  h1 (-1 : Int32))
 else ((jw_gR h1 12 (some x0) 4).bind fun v7 =>
 (jw_ai h1 20 v7 x1).bind fun v8 =>
 g_X12_scriptLength_b46  h1 v8))
 else (g_X12_scriptLength_b46  h1 (0 : Int32))

noncomputable def f_X12_scriptLength (h : jw_H) (x0 : Nat) (x1 : Int32) : Option (Int32 × jw_H) :=
 jw_b2 (f_X12_isFour h x1) fun w2 h1 =>
 if w2 = 0 then (g_X12_scriptLength_b13  h1 x0 x1 x0 (1 : Int32))
 else (g_X12_scriptLength_b13  h1 x0 x1 x0 (0 : Int32))

set_option maxRecDepth 100000 in
set_option maxHeartbeats 4000000 in
theorem l_X12_scriptLength_b46 {hi : jw_H} {h : jw_H} {t0 : Int32} {r : Int32} {h' : jw_H} (hq : g_X12_scriptLength_b46  h t0 = some (r, h')) : jw_E 1 uX12_scriptLength hi 46 [none, none] [.int t0] h (.inl (some (.int r))) h' := by
  unfold g_X12_scriptLength_b46 at hq
  cases hq
  exact jw_iret (ty := .int) dX12_scriptLength_46 rfl rfl

set_option maxRecDepth 100000 in
set_option maxHeartbeats 4000000 in
theorem l_X12_scriptLength_b13 {hi : jw_H} {h : jw_H} {x0 : Nat} {x1 : Int32} {t0 : Nat} {t1 : Int32} {r : Int32} {h' : jw_H} (hq : g_X12_scriptLength_b13  h x0 x1 t0 t1 = some (r, h')) : jw_E 1 uX12_scriptLength hi 13 [some (.ref x0), some (.int x1)] [.int t1, .ref t0] h (.inl (some (.int r))) h' := by
  unfold g_X12_scriptLength_b13 at hq
  obtain ⟨h1, eh1, hq⟩ := Option.bind_eq_some_iff.mp hq
  refine jw_putI (o := (some t0)) dX12_scriptLength_13 eh1 fl_X12_105 rfl rfl ?_
  refine jw_aload_n dX12_scriptLength_16 (o := (some x0)) rfl ?_
  obtain ⟨v2, ev2, hq⟩ := Option.bind_eq_some_iff.mp hq
  refine jw_getI (o := (some x0)) dX12_scriptLength_17 ev2 fl_X12_105 rfl ?_
  rcases jw_if hq with ⟨c3, hq⟩ | ⟨c3, hq⟩
  · refine jw_if_le_t (tgt := 27) dX12_scriptLength_20 (by decide) c3 ?_
    refine jw_aload_n dX12_scriptLength_27 (o := (some x0)) rfl ?_
    obtain ⟨v4, ev4, hq⟩ := Option.bind_eq_some_iff.mp hq
    refine jw_getR (o := (some x0)) dX12_scriptLength_28 ev4 fl_X12_19 rfl ?_
    refine jw_iload_n dX12_scriptLength_31 rfl ?_
    obtain ⟨v5, ev5, hq⟩ := Option.bind_eq_some_iff.mp hq
    refine jw_zald (o := v4) dX12_scriptLength_32 ev5 ?_
    rcases jw_if hq with ⟨c6, hq⟩ | ⟨c6, hq⟩
    · refine jw_if_eq_t (tgt := 45) dX12_scriptLength_33 (by decide) c6 ?_
      refine jw_iconst dX12_scriptLength_45 (v := (-1 : Int32)) (by decide) ?_
      refine jw_forget [false, false] (L' := [none, none]) rfl ?_
      exact l_X12_scriptLength_b46  hq
    · refine jw_if_eq_f (tgt := 45) dX12_scriptLength_33 (by decide) c6 ?_
      refine jw_aload_n dX12_scriptLength_36 (o := (some x0)) rfl ?_
      obtain ⟨v7, ev7, hq⟩ := Option.bind_eq_some_iff.mp hq
      refine jw_getR (o := (some x0)) dX12_scriptLength_37 ev7 fl_X12_16 rfl ?_
      refine jw_iload_n dX12_scriptLength_40 rfl ?_
      obtain ⟨v8, ev8, hq⟩ := Option.bind_eq_some_iff.mp hq
      refine jw_iald (o := v7) dX12_scriptLength_41 ev8 ?_
      refine jw_goto (tgt := 46) dX12_scriptLength_42 (by decide) ?_
      refine jw_forget [false, false] (L' := [none, none]) rfl ?_
      exact l_X12_scriptLength_b46  hq
  · refine jw_if_le_f (tgt := 27) dX12_scriptLength_20 (by decide) c3 ?_
    refine jw_iconst dX12_scriptLength_23 (v := (0 : Int32)) (by decide) ?_
    refine jw_goto (tgt := 46) dX12_scriptLength_24 (by decide) ?_
    refine jw_forget [false, false] (L' := [none, none]) rfl ?_
    exact l_X12_scriptLength_b46  hq

set_option maxRecDepth 100000 in
set_option maxHeartbeats 4000000 in
theorem l_X12_scriptLength {hi : jw_H} {h : jw_H} {x0 : Nat} {x1 : Int32} {r : Int32} {h' : jw_H} (hq : f_X12_scriptLength  h x0 x1 = some (r, h')) : jw_E 1 uX12_scriptLength hi 0 [some (.ref x0), some (.int x1)] [] h (.inl (some (.int r))) h' := by
  unfold f_X12_scriptLength at hq
  refine jw_aload_n dX12_scriptLength_0 (o := (some x0)) rfl ?_
  refine jw_iload_n dX12_scriptLength_1 rfl ?_
  obtain ⟨w2, h1, ew2, hq⟩ := jw_b2_spec hq
  refine jw_callS (As := [.int x1]) (S := [.ref x0]) (v := some (.int w2)) dX12_scriptLength_2 mt_X12_isFour st_X12_isFour lk_X12_691 (c_X12_isFour ew2) rfl (by decide) (Nat.le_of_ble_eq_true rfl) rfl ?_
  rcases jw_if hq with ⟨c3, hq⟩ | ⟨c3, hq⟩
  · refine jw_if_eq_t (tgt := 12) dX12_scriptLength_5 (by decide) c3 ?_
    refine jw_iconst dX12_scriptLength_12 (v := (1 : Int32)) (by decide) ?_
    exact l_X12_scriptLength_b13  hq
  · refine jw_if_eq_f (tgt := 12) dX12_scriptLength_5 (by decide) c3 ?_
    refine jw_iconst dX12_scriptLength_8 (v := (0 : Int32)) (by decide) ?_
    refine jw_goto (tgt := 13) dX12_scriptLength_9 (by decide) ?_
    exact l_X12_scriptLength_b13  hq

theorem c_X12_scriptLength {h : jw_H} {x0 : Nat} {x1 : Int32} {r : Int32} {h' : jw_H} (hq : f_X12_scriptLength h x0 x1 = some (r, h')) : jw_Con (Cond.code yX12_scriptLength cX12_scriptLength 2 (some .int)) yX12_scriptLength 1 [.ref x0, .int x1] h (.inl (some (.int r))) h' :=
  jw_con false (plainFor_of_name (by decide +kernel)) (fun z => nomatch z) (by simp [jw_ent, jw_sl0_nil, jw_sl0_int, jw_sl0_long, jw_sl0_ref, jw_sl0_rf, jw_sl0_scr, List.replicate]) (by simp [jw_sl0_nil, jw_sl0_int, jw_sl0_long, jw_sl0_ref, jw_sl0_rf, jw_sl0_scr]) (l_X12_scriptLength hq)


/-! X12_scriptAt -/
noncomputable def g_X12_scriptAt_b68 (h : jw_H) (t0 : Int32) : Option (Int32 × jw_H) :=
 some (t0, h)

noncomputable def g_X12_scriptAt_b46 (h : jw_H) (x0 : Nat) (x1 : Int32) (x2 : Int32) (x3 : Int32) (t0 : Nat) (t1 : Int32) : Option (Int32 × jw_H) :=
 (jw_pI h 12 (some t0) 0 t1).bind fun h1 =>
 if x3 = 0 then (g_X12_scriptAt_b68  h1 (0 : Int32))
 else ((jw_gR h1 12 (some x0) 3).bind fun v3 =>
 (jw_ai h1 20 v3 (((60 : Int32) * x1) + x2)).bind fun v4 =>
 g_X12_scriptAt_b68  h1 v4)

noncomputable def g_X12_scriptAt_b35 (h : jw_H) (x0 : Nat) (x1 : Int32) (x2 : Int32) (t0 : Int32) : Option (Int32 × jw_H) :=
 if t0 = 0 then (g_X12_scriptAt_b46  h x0 x1 x2 t0 x0 (1 : Int32))
 else (g_X12_scriptAt_b46  h x0 x1 x2 t0 x0 (0 : Int32))

noncomputable def g_X12_scriptAt_b34 (h : jw_H) (x0 : Nat) (x1 : Int32) (x2 : Int32) : Option (Int32 × jw_H) :=
 g_X12_scriptAt_b35  h x0 x1 x2 (0 : Int32)

noncomputable def f_X12_scriptAt (h : jw_H) (x0 : Nat) (x1 : Int32) (x2 : Int32) : Option (Int32 × jw_H) :=
 jw_b2 (f_X12_isFour h x1) fun w2 h1 =>
 if w2 = 0 then (g_X12_scriptAt_b34  h1 x0 x1 x2)
 else ((jw_gR h1 12 (some x0) 5).bind fun v4 =>
 (jw_ai h1 22 v4 x1).bind fun v5 =>
 if v5 = 0 then (g_X12_scriptAt_b34  h1 x0 x1 x2)
 else (if x2 < 0 then (g_X12_scriptAt_b34  h1 x0 x1 x2)
 else ((jw_gR h1 12 (some x0) 4).bind fun v8 =>
 (jw_ai h1 20 v8 x1).bind fun v9 =>
 if v9 ≤ x2 then (g_X12_scriptAt_b34  h1 x0 x1 x2)
 else (g_X12_scriptAt_b35  h1 x0 x1 x2 (1 : Int32)))))

set_option maxRecDepth 100000 in
set_option maxHeartbeats 4000000 in
theorem l_X12_scriptAt_b68 {hi : jw_H} {h : jw_H} {t0 : Int32} {r : Int32} {h' : jw_H} (hq : g_X12_scriptAt_b68  h t0 = some (r, h')) : jw_E 1 uX12_scriptAt hi 68 [none, none, none, none] [.int t0] h (.inl (some (.int r))) h' := by
  unfold g_X12_scriptAt_b68 at hq
  cases hq
  exact jw_iret (ty := .int) dX12_scriptAt_68 rfl rfl

set_option maxRecDepth 100000 in
set_option maxHeartbeats 4000000 in
theorem l_X12_scriptAt_b46 {hi : jw_H} {h : jw_H} {x0 : Nat} {x1 : Int32} {x2 : Int32} {x3 : Int32} {t0 : Nat} {t1 : Int32} {r : Int32} {h' : jw_H} (hq : g_X12_scriptAt_b46  h x0 x1 x2 x3 t0 t1 = some (r, h')) : jw_E 1 uX12_scriptAt hi 46 [some (.ref x0), some (.int x1), some (.int x2), some (.int x3)] [.int t1, .ref t0] h (.inl (some (.int r))) h' := by
  unfold g_X12_scriptAt_b46 at hq
  obtain ⟨h1, eh1, hq⟩ := Option.bind_eq_some_iff.mp hq
  refine jw_putI (o := (some t0)) dX12_scriptAt_46 eh1 fl_X12_105 rfl rfl ?_
  refine jw_iload_n dX12_scriptAt_49 rfl ?_
  rcases jw_if hq with ⟨c2, hq⟩ | ⟨c2, hq⟩
  · refine jw_if_eq_t (tgt := 67) dX12_scriptAt_50 (by decide) c2 ?_
    refine jw_iconst dX12_scriptAt_67 (v := (0 : Int32)) (by decide) ?_
    refine jw_forget [false, false, false, false] (L' := [none, none, none, none]) rfl ?_
    exact l_X12_scriptAt_b68  hq
  · refine jw_if_eq_f (tgt := 67) dX12_scriptAt_50 (by decide) c2 ?_
    refine jw_aload_n dX12_scriptAt_53 (o := (some x0)) rfl ?_
    obtain ⟨v3, ev3, hq⟩ := Option.bind_eq_some_iff.mp hq
    refine jw_getR (o := (some x0)) dX12_scriptAt_54 ev3 fl_X12_13 rfl ?_
    refine jw_bipush dX12_scriptAt_57 (v := (60 : Int32)) (by decide) ?_
    refine jw_iload_n dX12_scriptAt_59 rfl ?_
    refine jw_imul dX12_scriptAt_60 ?_
    refine jw_iload_n dX12_scriptAt_61 rfl ?_
    refine jw_iadd dX12_scriptAt_62 ?_
    obtain ⟨v4, ev4, hq⟩ := Option.bind_eq_some_iff.mp hq
    refine jw_iald (o := v3) dX12_scriptAt_63 ev4 ?_
    refine jw_goto (tgt := 68) dX12_scriptAt_64 (by decide) ?_
    refine jw_forget [false, false, false, false] (L' := [none, none, none, none]) rfl ?_
    exact l_X12_scriptAt_b68  hq

set_option maxRecDepth 100000 in
set_option maxHeartbeats 4000000 in
theorem l_X12_scriptAt_b35 {hi : jw_H} {h : jw_H} {x0 : Nat} {x1 : Int32} {x2 : Int32} {t0 : Int32} {r : Int32} {h' : jw_H} (hq : g_X12_scriptAt_b35  h x0 x1 x2 t0 = some (r, h')) : jw_E 1 uX12_scriptAt hi 35 [some (.ref x0), some (.int x1), some (.int x2), none] [.int t0] h (.inl (some (.int r))) h' := by
  unfold g_X12_scriptAt_b35 at hq
  refine jw_istore_n (L' := [some (.ref x0), some (.int x1), some (.int x2), some (.int t0)]) dX12_scriptAt_35 (Nat.le_of_ble_eq_true rfl) rfl ?_
  refine jw_aload_n dX12_scriptAt_36 (o := (some x0)) rfl ?_
  refine jw_iload_n dX12_scriptAt_37 rfl ?_
  rcases jw_if hq with ⟨c1, hq⟩ | ⟨c1, hq⟩
  · refine jw_if_eq_t (tgt := 45) dX12_scriptAt_38 (by decide) c1 ?_
    refine jw_iconst dX12_scriptAt_45 (v := (1 : Int32)) (by decide) ?_
    exact l_X12_scriptAt_b46  hq
  · refine jw_if_eq_f (tgt := 45) dX12_scriptAt_38 (by decide) c1 ?_
    refine jw_iconst dX12_scriptAt_41 (v := (0 : Int32)) (by decide) ?_
    refine jw_goto (tgt := 46) dX12_scriptAt_42 (by decide) ?_
    exact l_X12_scriptAt_b46  hq

set_option maxRecDepth 100000 in
set_option maxHeartbeats 4000000 in
theorem l_X12_scriptAt_b34 {hi : jw_H} {h : jw_H} {x0 : Nat} {x1 : Int32} {x2 : Int32} {r : Int32} {h' : jw_H} (hq : g_X12_scriptAt_b34  h x0 x1 x2 = some (r, h')) : jw_E 1 uX12_scriptAt hi 34 [some (.ref x0), some (.int x1), some (.int x2), none] [] h (.inl (some (.int r))) h' := by
  unfold g_X12_scriptAt_b34 at hq
  refine jw_iconst dX12_scriptAt_34 (v := (0 : Int32)) (by decide) ?_
  exact l_X12_scriptAt_b35  hq

set_option maxRecDepth 100000 in
set_option maxHeartbeats 4000000 in
theorem l_X12_scriptAt {hi : jw_H} {h : jw_H} {x0 : Nat} {x1 : Int32} {x2 : Int32} {r : Int32} {h' : jw_H} (hq : f_X12_scriptAt  h x0 x1 x2 = some (r, h')) : jw_E 1 uX12_scriptAt hi 0 [some (.ref x0), some (.int x1), some (.int x2), none] [] h (.inl (some (.int r))) h' := by
  unfold f_X12_scriptAt at hq
  refine jw_iload_n dX12_scriptAt_0 rfl ?_
  obtain ⟨w2, h1, ew2, hq⟩ := jw_b2_spec hq
  refine jw_callS (As := [.int x1]) (S := []) (v := some (.int w2)) dX12_scriptAt_1 mt_X12_isFour st_X12_isFour lk_X12_691 (c_X12_isFour ew2) rfl (by decide) (Nat.le_of_ble_eq_true rfl) rfl ?_
  rcases jw_if hq with ⟨c3, hq⟩ | ⟨c3, hq⟩
  · refine jw_if_eq_t (tgt := 34) dX12_scriptAt_4 (by decide) c3 ?_
    exact l_X12_scriptAt_b34  hq
  · refine jw_if_eq_f (tgt := 34) dX12_scriptAt_4 (by decide) c3 ?_
    refine jw_aload_n dX12_scriptAt_7 (o := (some x0)) rfl ?_
    obtain ⟨v4, ev4, hq⟩ := Option.bind_eq_some_iff.mp hq
    refine jw_getR (o := (some x0)) dX12_scriptAt_8 ev4 fl_X12_19 rfl ?_
    refine jw_iload_n dX12_scriptAt_11 rfl ?_
    obtain ⟨v5, ev5, hq⟩ := Option.bind_eq_some_iff.mp hq
    refine jw_zald (o := v4) dX12_scriptAt_12 ev5 ?_
    rcases jw_if hq with ⟨c6, hq⟩ | ⟨c6, hq⟩
    · refine jw_if_eq_t (tgt := 34) dX12_scriptAt_13 (by decide) c6 ?_
      exact l_X12_scriptAt_b34  hq
    · refine jw_if_eq_f (tgt := 34) dX12_scriptAt_13 (by decide) c6 ?_
      refine jw_iload_n dX12_scriptAt_16 rfl ?_
      rcases jw_if hq with ⟨c7, hq⟩ | ⟨c7, hq⟩
      · refine jw_if_lt_t (tgt := 34) dX12_scriptAt_17 (by decide) c7 ?_
        exact l_X12_scriptAt_b34  hq
      · refine jw_if_lt_f (tgt := 34) dX12_scriptAt_17 (by decide) c7 ?_
        refine jw_iload_n dX12_scriptAt_20 rfl ?_
        refine jw_aload_n dX12_scriptAt_21 (o := (some x0)) rfl ?_
        obtain ⟨v8, ev8, hq⟩ := Option.bind_eq_some_iff.mp hq
        refine jw_getR (o := (some x0)) dX12_scriptAt_22 ev8 fl_X12_16 rfl ?_
        refine jw_iload_n dX12_scriptAt_25 rfl ?_
        obtain ⟨v9, ev9, hq⟩ := Option.bind_eq_some_iff.mp hq
        refine jw_iald (o := v8) dX12_scriptAt_26 ev9 ?_
        rcases jw_if hq with ⟨c10, hq⟩ | ⟨c10, hq⟩
        · refine jw_icmp_ge_t (tgt := 34) dX12_scriptAt_27 (by decide) c10 ?_
          exact l_X12_scriptAt_b34  hq
        · refine jw_icmp_ge_f (tgt := 34) dX12_scriptAt_27 (by decide) c10 ?_
          refine jw_iconst dX12_scriptAt_30 (v := (1 : Int32)) (by decide) ?_
          refine jw_goto (tgt := 35) dX12_scriptAt_31 (by decide) ?_
          exact l_X12_scriptAt_b35  hq

theorem c_X12_scriptAt {h : jw_H} {x0 : Nat} {x1 : Int32} {x2 : Int32} {r : Int32} {h' : jw_H} (hq : f_X12_scriptAt h x0 x1 x2 = some (r, h')) : jw_Con (Cond.code yX12_scriptAt cX12_scriptAt 4 (some .int)) yX12_scriptAt 1 [.ref x0, .int x1, .int x2] h (.inl (some (.int r))) h' :=
  jw_con false (plainFor_of_name (by decide +kernel)) (fun z => nomatch z) (by simp [jw_ent, jw_sl0_nil, jw_sl0_int, jw_sl0_long, jw_sl0_ref, jw_sl0_rf, jw_sl0_scr, List.replicate]) (by simp [jw_sl0_nil, jw_sl0_int, jw_sl0_long, jw_sl0_ref, jw_sl0_rf, jw_sl0_scr]) (l_X12_scriptAt hq)


/-! X12_undo -/
noncomputable def g_X12_undo_b13 (h : jw_H) (x0 : Nat) (t0 : Nat) (t1 : Int32) : Option (Int32 × jw_H) :=
 (jw_pI h 12 (some t0) 0 t1).bind fun h1 =>
 (jw_gI h1 12 (some x0) 0).bind fun v2 =>
 if v2 ≤ 0 then ((jw_rc h1 12 (some x0)).bind fun a4 =>
 jw_b2 (f_X12_undoLatest h1 a4) fun w6 h5 =>
 (jw_gI h5 12 (some x0) 62).bind fun v7 =>
 some (v7, h5))
 else (some ((0 : Int32), h1))

noncomputable def f_X12_undo (h : jw_H) (x0 : Nat) : Option (Int32 × jw_H) :=
 (jw_gI h 12 (some x0) 62).bind fun v1 =>
 if v1 = 0 then (g_X12_undo_b13  h x0 x0 (1 : Int32))
 else (g_X12_undo_b13  h x0 x0 (0 : Int32))

set_option maxRecDepth 100000 in
set_option maxHeartbeats 4000000 in
theorem l_X12_undo_b13 {hi : jw_H} {h : jw_H} {x0 : Nat} {t0 : Nat} {t1 : Int32} {r : Int32} {h' : jw_H} (hq : g_X12_undo_b13  h x0 t0 t1 = some (r, h')) : jw_E 2 uX12_undo hi 13 [some (.ref x0)] [.int t1, .ref t0] h (.inl (some (.int r))) h' := by
  unfold g_X12_undo_b13 at hq
  obtain ⟨h1, eh1, hq⟩ := Option.bind_eq_some_iff.mp hq
  refine jw_putI (o := (some t0)) dX12_undo_13 eh1 fl_X12_105 rfl rfl ?_
  refine jw_aload_n dX12_undo_16 (o := (some x0)) rfl ?_
  obtain ⟨v2, ev2, hq⟩ := Option.bind_eq_some_iff.mp hq
  refine jw_getI (o := (some x0)) dX12_undo_17 ev2 fl_X12_105 rfl ?_
  rcases jw_if hq with ⟨c3, hq⟩ | ⟨c3, hq⟩
  · refine jw_if_le_t (tgt := 25) dX12_undo_20 (by decide) c3 ?_
    refine jw_aload_n dX12_undo_25 (o := (some x0)) rfl ?_
    obtain ⟨a4, ea4, hq⟩ := Option.bind_eq_some_iff.mp hq
    obtain ⟨eoa4, eta4⟩ := jw_rc_spec ea4
    obtain ⟨w6, h5, ew6, hq⟩ := jw_b2_spec hq
    refine jw_callV (As := []) (S := []) (a := a4) (v := none) dX12_undo_26 mt_X12_undoLatest in_X12_undoLatest se_X12_undoLatest lk_X12_700 (c_X12_undoLatest ew6) eta4 (by decide) rfl rfl (by decide) (Nat.le_of_ble_eq_true rfl) (by cases eoa4; rfl) ?_
    refine jw_aload_n dX12_undo_29 (o := (some x0)) rfl ?_
    obtain ⟨v7, ev7, hq⟩ := Option.bind_eq_some_iff.mp hq
    refine jw_getI (o := (some x0)) dX12_undo_30 ev7 fl_X12_494 rfl ?_
    cases hq
    exact jw_iret (ty := .int) dX12_undo_33 rfl rfl
  · refine jw_if_le_f (tgt := 25) dX12_undo_20 (by decide) c3 ?_
    refine jw_iconst dX12_undo_23 (v := (0 : Int32)) (by decide) ?_
    cases hq
    exact jw_iret (ty := .int) dX12_undo_24 rfl rfl

set_option maxRecDepth 100000 in
set_option maxHeartbeats 4000000 in
theorem l_X12_undo {hi : jw_H} {h : jw_H} {x0 : Nat} {r : Int32} {h' : jw_H} (hq : f_X12_undo  h x0 = some (r, h')) : jw_E 2 uX12_undo hi 0 [some (.ref x0)] [] h (.inl (some (.int r))) h' := by
  unfold f_X12_undo at hq
  refine jw_aload_n dX12_undo_0 (o := (some x0)) rfl ?_
  refine jw_aload_n dX12_undo_1 (o := (some x0)) rfl ?_
  obtain ⟨v1, ev1, hq⟩ := Option.bind_eq_some_iff.mp hq
  refine jw_getI (o := (some x0)) dX12_undo_2 ev1 fl_X12_494 rfl ?_
  rcases jw_if hq with ⟨c2, hq⟩ | ⟨c2, hq⟩
  · refine jw_if_ne_f (tgt := 12) dX12_undo_5 (by decide) c2 ?_
    refine jw_iconst dX12_undo_8 (v := (1 : Int32)) (by decide) ?_
    refine jw_goto (tgt := 13) dX12_undo_9 (by decide) ?_
    exact l_X12_undo_b13  hq
  · refine jw_if_ne_t (tgt := 12) dX12_undo_5 (by decide) c2 ?_
    refine jw_iconst dX12_undo_12 (v := (0 : Int32)) (by decide) ?_
    exact l_X12_undo_b13  hq

theorem c_X12_undo {h : jw_H} {x0 : Nat} {r : Int32} {h' : jw_H} (hq : f_X12_undo h x0 = some (r, h')) : jw_Con (Cond.code yX12_undo cX12_undo 1 (some .int)) yX12_undo 2 [.ref x0] h (.inl (some (.int r))) h' :=
  jw_con false (plainFor_of_name (by decide +kernel)) (fun z => nomatch z) (by simp [jw_ent, jw_sl0_nil, jw_sl0_int, jw_sl0_long, jw_sl0_ref, jw_sl0_rf, jw_sl0_scr, List.replicate]) (by simp [jw_sl0_nil, jw_sl0_int, jw_sl0_long, jw_sl0_ref, jw_sl0_rf, jw_sl0_scr]) (l_X12_undo hq)


/-! X12_undoRun -/
noncomputable def g_X12_undoRun_b37 (k37 : jw_H → Nat → Int32 → Int32 → Option (Int32 × jw_H)) (h : jw_H) (x0 : Nat) (x1 : Int32) (x2 : Int32) : Option (Int32 × jw_H) :=
 (jw_gI h 12 (some x0) 62).bind fun v1 =>
 if v1 ≤ 0 then (some (x2, h))
 else ((jw_gR h 12 (some x0) 60).bind fun v3 =>
 (jw_rc h 12 (some x0)).bind fun a4 =>
 jw_b2 (f_X12_latestDeed h a4) fun w6 h5 =>
 (jw_ai h5 20 v3 w6).bind fun v7 =>
 if v7 = x1 then ((jw_rc h5 12 (some x0)).bind fun a9 =>
 jw_b2 (f_X12_undoLatest h5 a9) fun w11 h10 =>
 k37 h10 x0 x1 (x2 + (1 : Int32)))
 else (some (x2, h5)))

noncomputable def f_X12_undoRun_b37 (n : Nat) : jw_H → Nat → Int32 → Int32 → Option (Int32 × jw_H) :=
 Nat.rec (fun _ _ _ _ => none) (fun _ k37 => g_X12_undoRun_b37 k37) n

noncomputable def g_X12_undoRun_b13 (h : jw_H) (x0 : Nat) (t0 : Nat) (t1 : Int32) : Option (Int32 × jw_H) :=
 (jw_pI h 12 (some t0) 0 t1).bind fun h1 =>
 (jw_gI h1 12 (some x0) 0).bind fun v2 =>
 if v2 ≤ 0 then ((jw_gR h1 12 (some x0) 60).bind fun v4 =>
 (jw_rc h1 12 (some x0)).bind fun a5 =>
 jw_b2 (f_X12_latestDeed h1 a5) fun w7 h6 =>
 (jw_ai h6 20 v4 w7).bind fun v8 =>
 f_X12_undoRun_b37  jw_FU h6 x0 v8 (0 : Int32))
 else (some ((0 : Int32), h1))

noncomputable def f_X12_undoRun (h : jw_H) (x0 : Nat) : Option (Int32 × jw_H) :=
 (jw_gI h 12 (some x0) 62).bind fun v1 =>
 if v1 = 0 then (g_X12_undoRun_b13  h x0 x0 (1 : Int32))
 else (g_X12_undoRun_b13  h x0 x0 (0 : Int32))

set_option maxRecDepth 100000 in
set_option maxHeartbeats 4000000 in
theorem l_X12_undoRun_b37g {hi : jw_H} {k37 : jw_H → Nat → Int32 → Int32 → Option (Int32 × jw_H)} (hk37 : ∀ (h : jw_H) (x0 : Nat) (x1 : Int32) (x2 : Int32) (r : Int32) (h' : jw_H), k37 h x0 x1 x2 = some (r, h') → jw_E 2 uX12_undoRun hi 37 [some (.ref x0), some (.int x1), some (.int x2)] [] h (.inl (some (.int r))) h') {h : jw_H} {x0 : Nat} {x1 : Int32} {x2 : Int32} {r : Int32} {h' : jw_H} (hq : g_X12_undoRun_b37 k37 h x0 x1 x2 = some (r, h')) : jw_E 2 uX12_undoRun hi 37 [some (.ref x0), some (.int x1), some (.int x2)] [] h (.inl (some (.int r))) h' := by
  unfold g_X12_undoRun_b37 at hq
  refine jw_aload_n dX12_undoRun_37 (o := (some x0)) rfl ?_
  obtain ⟨v1, ev1, hq⟩ := Option.bind_eq_some_iff.mp hq
  refine jw_getI (o := (some x0)) dX12_undoRun_38 ev1 fl_X12_494 rfl ?_
  rcases jw_if hq with ⟨c2, hq⟩ | ⟨c2, hq⟩
  · refine jw_if_le_t (tgt := 67) dX12_undoRun_41 (by decide) c2 ?_
    refine jw_iload_n dX12_undoRun_67 rfl ?_
    cases hq
    exact jw_iret (ty := .int) dX12_undoRun_68 rfl rfl
  · refine jw_if_le_f (tgt := 67) dX12_undoRun_41 (by decide) c2 ?_
    refine jw_aload_n dX12_undoRun_44 (o := (some x0)) rfl ?_
    obtain ⟨v3, ev3, hq⟩ := Option.bind_eq_some_iff.mp hq
    refine jw_getR (o := (some x0)) dX12_undoRun_45 ev3 fl_X12_87 rfl ?_
    refine jw_aload_n dX12_undoRun_48 (o := (some x0)) rfl ?_
    obtain ⟨a4, ea4, hq⟩ := Option.bind_eq_some_iff.mp hq
    obtain ⟨eoa4, eta4⟩ := jw_rc_spec ea4
    obtain ⟨w6, h5, ew6, hq⟩ := jw_b2_spec hq
    refine jw_callV (As := []) (S := [va_rf v3]) (a := a4) (v := some (.int w6)) dX12_undoRun_49 mt_X12_latestDeed in_X12_latestDeed se_X12_latestDeed lk_X12_500 (c_X12_latestDeed ew6) eta4 (by decide) rfl rfl (by decide) (by simp only [List.map_cons, List.map_nil, List.sum_cons, List.sum_nil, jw_cat_rf, jw_cat_i, jw_cat_l, jw_cat_a, jw_cat_s] <;> decide) (by cases eoa4; rfl) ?_
    obtain ⟨v7, ev7, hq⟩ := Option.bind_eq_some_iff.mp hq
    refine jw_iald (o := v3) dX12_undoRun_52 ev7 ?_
    refine jw_iload_n dX12_undoRun_53 rfl ?_
    rcases jw_if hq with ⟨c8, hq⟩ | ⟨c8, hq⟩
    · refine jw_icmp_ne_f (tgt := 67) dX12_undoRun_54 (by decide) c8 ?_
      refine jw_aload_n dX12_undoRun_57 (o := (some x0)) rfl ?_
      obtain ⟨a9, ea9, hq⟩ := Option.bind_eq_some_iff.mp hq
      obtain ⟨eoa9, eta9⟩ := jw_rc_spec ea9
      obtain ⟨w11, h10, ew11, hq⟩ := jw_b2_spec hq
      refine jw_callV (As := []) (S := []) (a := a9) (v := none) dX12_undoRun_58 mt_X12_undoLatest in_X12_undoLatest se_X12_undoLatest lk_X12_700 (c_X12_undoLatest ew11) eta9 (by decide) rfl rfl (by decide) (Nat.le_of_ble_eq_true rfl) (by cases eoa9; rfl) ?_
      refine jw_iinc (L' := [some (.ref x0), some (.int x1), some (.int (x2 + (1 : Int32)))]) dX12_undoRun_61 rfl (v := (1 : Int32)) (by decide) (Nat.le_of_ble_eq_true rfl) rfl ?_
      refine jw_goto (tgt := 37) dX12_undoRun_64 (by decide) ?_
      exact hk37 _ _ _ _ _ _ hq
    · refine jw_icmp_ne_t (tgt := 67) dX12_undoRun_54 (by decide) c8 ?_
      refine jw_iload_n dX12_undoRun_67 rfl ?_
      cases hq
      exact jw_iret (ty := .int) dX12_undoRun_68 rfl rfl

theorem l_X12_undoRun_b37 {hi : jw_H} : ∀ (n : Nat) (h : jw_H) (x0 : Nat) (x1 : Int32) (x2 : Int32) (r : Int32) (h' : jw_H), f_X12_undoRun_b37  n h x0 x1 x2 = some (r, h') → jw_E 2 uX12_undoRun hi 37 [some (.ref x0), some (.int x1), some (.int x2)] [] h (.inl (some (.int r))) h' := by
  intro n
  induction n with
  | zero => intro h x0 x1 x2 r h' hq; exact nomatch hq
  | succ n ih => intro h x0 x1 x2 r h' hq; exact l_X12_undoRun_b37g ih hq

set_option maxRecDepth 100000 in
set_option maxHeartbeats 4000000 in
theorem l_X12_undoRun_b13 {hi : jw_H} {h : jw_H} {x0 : Nat} {t0 : Nat} {t1 : Int32} {r : Int32} {h' : jw_H} (hq : g_X12_undoRun_b13  h x0 t0 t1 = some (r, h')) : jw_E 2 uX12_undoRun hi 13 [some (.ref x0), none, none] [.int t1, .ref t0] h (.inl (some (.int r))) h' := by
  unfold g_X12_undoRun_b13 at hq
  obtain ⟨h1, eh1, hq⟩ := Option.bind_eq_some_iff.mp hq
  refine jw_putI (o := (some t0)) dX12_undoRun_13 eh1 fl_X12_105 rfl rfl ?_
  refine jw_aload_n dX12_undoRun_16 (o := (some x0)) rfl ?_
  obtain ⟨v2, ev2, hq⟩ := Option.bind_eq_some_iff.mp hq
  refine jw_getI (o := (some x0)) dX12_undoRun_17 ev2 fl_X12_105 rfl ?_
  rcases jw_if hq with ⟨c3, hq⟩ | ⟨c3, hq⟩
  · refine jw_if_le_t (tgt := 25) dX12_undoRun_20 (by decide) c3 ?_
    refine jw_aload_n dX12_undoRun_25 (o := (some x0)) rfl ?_
    obtain ⟨v4, ev4, hq⟩ := Option.bind_eq_some_iff.mp hq
    refine jw_getR (o := (some x0)) dX12_undoRun_26 ev4 fl_X12_87 rfl ?_
    refine jw_aload_n dX12_undoRun_29 (o := (some x0)) rfl ?_
    obtain ⟨a5, ea5, hq⟩ := Option.bind_eq_some_iff.mp hq
    obtain ⟨eoa5, eta5⟩ := jw_rc_spec ea5
    obtain ⟨w7, h6, ew7, hq⟩ := jw_b2_spec hq
    refine jw_callV (As := []) (S := [va_rf v4]) (a := a5) (v := some (.int w7)) dX12_undoRun_30 mt_X12_latestDeed in_X12_latestDeed se_X12_latestDeed lk_X12_500 (c_X12_latestDeed ew7) eta5 (by decide) rfl rfl (by decide) (by simp only [List.map_cons, List.map_nil, List.sum_cons, List.sum_nil, jw_cat_rf, jw_cat_i, jw_cat_l, jw_cat_a, jw_cat_s] <;> decide) (by cases eoa5; rfl) ?_
    obtain ⟨v8, ev8, hq⟩ := Option.bind_eq_some_iff.mp hq
    refine jw_iald (o := v4) dX12_undoRun_33 ev8 ?_
    refine jw_istore_n (L' := [some (.ref x0), some (.int v8), none]) dX12_undoRun_34 (Nat.le_of_ble_eq_true rfl) rfl ?_
    refine jw_iconst dX12_undoRun_35 (v := (0 : Int32)) (by decide) ?_
    refine jw_istore_n (L' := [some (.ref x0), some (.int v8), some (.int (0 : Int32))]) dX12_undoRun_36 (Nat.le_of_ble_eq_true rfl) rfl ?_
    exact l_X12_undoRun_b37  jw_FU _ _ _ _ _ _ hq
  · refine jw_if_le_f (tgt := 25) dX12_undoRun_20 (by decide) c3 ?_
    refine jw_iconst dX12_undoRun_23 (v := (0 : Int32)) (by decide) ?_
    cases hq
    exact jw_iret (ty := .int) dX12_undoRun_24 rfl rfl

set_option maxRecDepth 100000 in
set_option maxHeartbeats 4000000 in
theorem l_X12_undoRun {hi : jw_H} {h : jw_H} {x0 : Nat} {r : Int32} {h' : jw_H} (hq : f_X12_undoRun  h x0 = some (r, h')) : jw_E 2 uX12_undoRun hi 0 [some (.ref x0), none, none] [] h (.inl (some (.int r))) h' := by
  unfold f_X12_undoRun at hq
  refine jw_aload_n dX12_undoRun_0 (o := (some x0)) rfl ?_
  refine jw_aload_n dX12_undoRun_1 (o := (some x0)) rfl ?_
  obtain ⟨v1, ev1, hq⟩ := Option.bind_eq_some_iff.mp hq
  refine jw_getI (o := (some x0)) dX12_undoRun_2 ev1 fl_X12_494 rfl ?_
  rcases jw_if hq with ⟨c2, hq⟩ | ⟨c2, hq⟩
  · refine jw_if_ne_f (tgt := 12) dX12_undoRun_5 (by decide) c2 ?_
    refine jw_iconst dX12_undoRun_8 (v := (1 : Int32)) (by decide) ?_
    refine jw_goto (tgt := 13) dX12_undoRun_9 (by decide) ?_
    exact l_X12_undoRun_b13  hq
  · refine jw_if_ne_t (tgt := 12) dX12_undoRun_5 (by decide) c2 ?_
    refine jw_iconst dX12_undoRun_12 (v := (0 : Int32)) (by decide) ?_
    exact l_X12_undoRun_b13  hq

theorem c_X12_undoRun {h : jw_H} {x0 : Nat} {r : Int32} {h' : jw_H} (hq : f_X12_undoRun h x0 = some (r, h')) : jw_Con (Cond.code yX12_undoRun cX12_undoRun 3 (some .int)) yX12_undoRun 2 [.ref x0] h (.inl (some (.int r))) h' :=
  jw_con false (plainFor_of_name (by decide +kernel)) (fun z => nomatch z) (by simp [jw_ent, jw_sl0_nil, jw_sl0_int, jw_sl0_long, jw_sl0_ref, jw_sl0_rf, jw_sl0_scr, List.replicate]) (by simp [jw_sl0_nil, jw_sl0_int, jw_sl0_long, jw_sl0_ref, jw_sl0_rf, jw_sl0_scr]) (l_X12_undoRun hq)


/-! X12_deeds -/
noncomputable def f_X12_deeds (h : jw_H) (x0 : Nat) : Option (Int32 × jw_H) :=
 (jw_pI h 12 (some x0) 0 (0 : Int32)).bind fun h1 =>
 (jw_gI h1 12 (some x0) 62).bind fun v2 =>
 some (v2, h1)

set_option maxRecDepth 100000 in
set_option maxHeartbeats 4000000 in
theorem l_X12_deeds {hi : jw_H} {h : jw_H} {x0 : Nat} {r : Int32} {h' : jw_H} (hq : f_X12_deeds  h x0 = some (r, h')) : jw_E 0 uX12_deeds hi 0 [some (.ref x0)] [] h (.inl (some (.int r))) h' := by
  unfold f_X12_deeds at hq
  refine jw_aload_n dX12_deeds_0 (o := (some x0)) rfl ?_
  refine jw_iconst dX12_deeds_1 (v := (0 : Int32)) (by decide) ?_
  obtain ⟨h1, eh1, hq⟩ := Option.bind_eq_some_iff.mp hq
  refine jw_putI (o := (some x0)) dX12_deeds_2 eh1 fl_X12_105 rfl rfl ?_
  refine jw_aload_n dX12_deeds_5 (o := (some x0)) rfl ?_
  obtain ⟨v2, ev2, hq⟩ := Option.bind_eq_some_iff.mp hq
  refine jw_getI (o := (some x0)) dX12_deeds_6 ev2 fl_X12_494 rfl ?_
  cases hq
  exact jw_iret (ty := .int) dX12_deeds_9 rfl rfl

theorem c_X12_deeds {h : jw_H} {x0 : Nat} {r : Int32} {h' : jw_H} (hq : f_X12_deeds h x0 = some (r, h')) : jw_Con (Cond.code yX12_deeds cX12_deeds 1 (some .int)) yX12_deeds 0 [.ref x0] h (.inl (some (.int r))) h' :=
  jw_con false (plainFor_of_name (by decide +kernel)) (fun z => nomatch z) (by simp [jw_ent, jw_sl0_nil, jw_sl0_int, jw_sl0_long, jw_sl0_ref, jw_sl0_rf, jw_sl0_scr, List.replicate]) (by simp [jw_sl0_nil, jw_sl0_int, jw_sl0_long, jw_sl0_ref, jw_sl0_rf, jw_sl0_scr]) (l_X12_deeds hq)


/-! X12_lines -/
noncomputable def f_X12_lines (h : jw_H) (x0 : Nat) : Option (Int32 × jw_H) :=
 (jw_pI h 12 (some x0) 0 (0 : Int32)).bind fun h1 =>
 (jw_gI h1 12 (some x0) 12).bind fun v2 =>
 some (v2, h1)

set_option maxRecDepth 100000 in
set_option maxHeartbeats 4000000 in
theorem l_X12_lines {hi : jw_H} {h : jw_H} {x0 : Nat} {r : Int32} {h' : jw_H} (hq : f_X12_lines  h x0 = some (r, h')) : jw_E 0 uX12_lines hi 0 [some (.ref x0)] [] h (.inl (some (.int r))) h' := by
  unfold f_X12_lines at hq
  refine jw_aload_n dX12_lines_0 (o := (some x0)) rfl ?_
  refine jw_iconst dX12_lines_1 (v := (0 : Int32)) (by decide) ?_
  obtain ⟨h1, eh1, hq⟩ := Option.bind_eq_some_iff.mp hq
  refine jw_putI (o := (some x0)) dX12_lines_2 eh1 fl_X12_105 rfl rfl ?_
  refine jw_aload_n dX12_lines_5 (o := (some x0)) rfl ?_
  obtain ⟨v2, ev2, hq⟩ := Option.bind_eq_some_iff.mp hq
  refine jw_getI (o := (some x0)) dX12_lines_6 ev2 fl_X12_124 rfl ?_
  cases hq
  exact jw_iret (ty := .int) dX12_lines_9 rfl rfl

theorem c_X12_lines {h : jw_H} {x0 : Nat} {r : Int32} {h' : jw_H} (hq : f_X12_lines h x0 = some (r, h')) : jw_Con (Cond.code yX12_lines cX12_lines 1 (some .int)) yX12_lines 0 [.ref x0] h (.inl (some (.int r))) h' :=
  jw_con false (plainFor_of_name (by decide +kernel)) (fun z => nomatch z) (by simp [jw_ent, jw_sl0_nil, jw_sl0_int, jw_sl0_long, jw_sl0_ref, jw_sl0_rf, jw_sl0_scr, List.replicate]) (by simp [jw_sl0_nil, jw_sl0_int, jw_sl0_long, jw_sl0_ref, jw_sl0_rf, jw_sl0_scr]) (l_X12_lines hq)


/-! X12_isLine -/
noncomputable def g_X12_isLine_b18 (h : jw_H) (t0 : Int32) : Option (Int32 × jw_H) :=
 (jw_rb t0).bind fun v1 =>
 some (t0, h)

noncomputable def g_X12_isLine_b17 (h : jw_H)  : Option (Int32 × jw_H) :=
 g_X12_isLine_b18  h (0 : Int32)

noncomputable def f_X12_isLine (h : jw_H) (x0 : Nat) (x1 : Int32) : Option (Int32 × jw_H) :=
 if x1 < (1 : Int32) then (g_X12_isLine_b17  h )
 else ((jw_gI h 12 (some x0) 12).bind fun v2 =>
 if v2 < x1 then (g_X12_isLine_b17  h )
 else (g_X12_isLine_b18  h (1 : Int32)))

set_option maxRecDepth 100000 in
set_option maxHeartbeats 4000000 in
theorem l_X12_isLine_b18 {hi : jw_H} {h : jw_H} {t0 : Int32} {r : Int32} {h' : jw_H} (hq : g_X12_isLine_b18  h t0 = some (r, h')) : jw_E 0 uX12_isLine hi 18 [none, none] [.int t0] h (.inl (some (.int r))) h' := by
  unfold g_X12_isLine_b18 at hq
  obtain ⟨v1, ev1, hq⟩ := Option.bind_eq_some_iff.mp hq
  cases hq
  exact jw_iret (ty := .boolean) dX12_isLine_18 rfl (jw_rb_spec ev1)

set_option maxRecDepth 100000 in
set_option maxHeartbeats 4000000 in
theorem l_X12_isLine_b17 {hi : jw_H} {h : jw_H}  {r : Int32} {h' : jw_H} (hq : g_X12_isLine_b17  h  = some (r, h')) : jw_E 0 uX12_isLine hi 17 [none, none] [] h (.inl (some (.int r))) h' := by
  unfold g_X12_isLine_b17 at hq
  refine jw_iconst dX12_isLine_17 (v := (0 : Int32)) (by decide) ?_
  exact l_X12_isLine_b18  hq

set_option maxRecDepth 100000 in
set_option maxHeartbeats 4000000 in
theorem l_X12_isLine {hi : jw_H} {h : jw_H} {x0 : Nat} {x1 : Int32} {r : Int32} {h' : jw_H} (hq : f_X12_isLine  h x0 x1 = some (r, h')) : jw_E 0 uX12_isLine hi 0 [some (.ref x0), some (.int x1)] [] h (.inl (some (.int r))) h' := by
  unfold f_X12_isLine at hq
  refine jw_iload_n dX12_isLine_0 rfl ?_
  refine jw_iconst dX12_isLine_1 (v := (1 : Int32)) (by decide) ?_
  rcases jw_if hq with ⟨c1, hq⟩ | ⟨c1, hq⟩
  · refine jw_icmp_lt_t (tgt := 17) dX12_isLine_2 (by decide) c1 ?_
    refine jw_forget [false, false] (L' := [none, none]) rfl ?_
    exact l_X12_isLine_b17  hq
  · refine jw_icmp_lt_f (tgt := 17) dX12_isLine_2 (by decide) c1 ?_
    refine jw_iload_n dX12_isLine_5 rfl ?_
    refine jw_aload_n dX12_isLine_6 (o := (some x0)) rfl ?_
    obtain ⟨v2, ev2, hq⟩ := Option.bind_eq_some_iff.mp hq
    refine jw_getI (o := (some x0)) dX12_isLine_7 ev2 fl_X12_124 rfl ?_
    rcases jw_if hq with ⟨c3, hq⟩ | ⟨c3, hq⟩
    · refine jw_icmp_gt_t (tgt := 17) dX12_isLine_10 (by decide) c3 ?_
      refine jw_forget [false, false] (L' := [none, none]) rfl ?_
      exact l_X12_isLine_b17  hq
    · refine jw_icmp_gt_f (tgt := 17) dX12_isLine_10 (by decide) c3 ?_
      refine jw_iconst dX12_isLine_13 (v := (1 : Int32)) (by decide) ?_
      refine jw_goto (tgt := 18) dX12_isLine_14 (by decide) ?_
      refine jw_forget [false, false] (L' := [none, none]) rfl ?_
      exact l_X12_isLine_b18  hq

theorem c_X12_isLine {h : jw_H} {x0 : Nat} {x1 : Int32} {r : Int32} {h' : jw_H} (hq : f_X12_isLine h x0 x1 = some (r, h')) : jw_Con (Cond.code yX12_isLine cX12_isLine 2 (some .boolean)) yX12_isLine 0 [.ref x0, .int x1] h (.inl (some (.int r))) h' :=
  jw_con false (plainFor_of_name (by decide +kernel)) (fun z => nomatch z) (by simp [jw_ent, jw_sl0_nil, jw_sl0_int, jw_sl0_long, jw_sl0_ref, jw_sl0_rf, jw_sl0_scr, List.replicate]) (by simp [jw_sl0_nil, jw_sl0_int, jw_sl0_long, jw_sl0_ref, jw_sl0_rf, jw_sl0_scr]) (l_X12_isLine hq)


/-! X12_isPlace -/
noncomputable def g_X12_isPlace_b35 (h : jw_H) (x4 : Int32) (t0 : Nat) (t1 : Int32) : Option (Int32 × jw_H) :=
 (jw_pI h 12 (some t0) 0 t1).bind fun h1 =>
 (jw_rb x4).bind fun v2 =>
 some (x4, h1)

noncomputable def g_X12_isPlace_b22 (h : jw_H) (x0 : Nat) (t0 : Int32) : Option (Int32 × jw_H) :=
 if t0 = 0 then (g_X12_isPlace_b35  h t0 x0 (1 : Int32))
 else (g_X12_isPlace_b35  h t0 x0 (0 : Int32))

noncomputable def g_X12_isPlace_b21 (h : jw_H) (x0 : Nat) : Option (Int32 × jw_H) :=
 g_X12_isPlace_b22  h x0 (0 : Int32)

noncomputable def f_X12_isPlace (h : jw_H) (x0 : Nat) (x1 : Int32) (x2 : Int32) (x3 : Int32) : Option (Int32 × jw_H) :=
 if x1 = 0 then (g_X12_isPlace_b21  h x0)
 else (if x3 < 0 then (g_X12_isPlace_b21  h x0)
 else ((jw_rc h 12 (some x0)).bind fun a3 =>
 jw_b2 (f_X12_len h a3 x2) fun w5 h4 =>
 if w5 ≤ x3 then (g_X12_isPlace_b21  h4 x0)
 else (g_X12_isPlace_b22  h4 x0 (1 : Int32))))

set_option maxRecDepth 100000 in
set_option maxHeartbeats 4000000 in
theorem l_X12_isPlace_b35 {hi : jw_H} {h : jw_H} {x4 : Int32} {t0 : Nat} {t1 : Int32} {r : Int32} {h' : jw_H} (hq : g_X12_isPlace_b35  h x4 t0 t1 = some (r, h')) : jw_E 1 uX12_isPlace hi 35 [none, none, none, none, some (.int x4)] [.int t1, .ref t0] h (.inl (some (.int r))) h' := by
  unfold g_X12_isPlace_b35 at hq
  obtain ⟨h1, eh1, hq⟩ := Option.bind_eq_some_iff.mp hq
  refine jw_putI (o := (some t0)) dX12_isPlace_35 eh1 fl_X12_105 rfl rfl ?_
  refine jw_iload dX12_isPlace_38 rfl ?_
  obtain ⟨v2, ev2, hq⟩ := Option.bind_eq_some_iff.mp hq
  cases hq
  exact jw_iret (ty := .boolean) dX12_isPlace_40 rfl (jw_rb_spec ev2)

set_option maxRecDepth 100000 in
set_option maxHeartbeats 4000000 in
theorem l_X12_isPlace_b22 {hi : jw_H} {h : jw_H} {x0 : Nat} {t0 : Int32} {r : Int32} {h' : jw_H} (hq : g_X12_isPlace_b22  h x0 t0 = some (r, h')) : jw_E 1 uX12_isPlace hi 22 [some (.ref x0), none, none, none, none] [.int t0] h (.inl (some (.int r))) h' := by
  unfold g_X12_isPlace_b22 at hq
  refine jw_istore (L' := [some (.ref x0), none, none, none, some (.int t0)]) dX12_isPlace_22 (Nat.le_of_ble_eq_true rfl) rfl ?_
  refine jw_aload_n dX12_isPlace_24 (o := (some x0)) rfl ?_
  refine jw_iload dX12_isPlace_25 rfl ?_
  rcases jw_if hq with ⟨c1, hq⟩ | ⟨c1, hq⟩
  · refine jw_if_eq_t (tgt := 34) dX12_isPlace_27 (by decide) c1 ?_
    refine jw_iconst dX12_isPlace_34 (v := (1 : Int32)) (by decide) ?_
    refine jw_forget [false, true, true, true, true] (L' := [none, none, none, none, some (.int t0)]) rfl ?_
    exact l_X12_isPlace_b35  hq
  · refine jw_if_eq_f (tgt := 34) dX12_isPlace_27 (by decide) c1 ?_
    refine jw_iconst dX12_isPlace_30 (v := (0 : Int32)) (by decide) ?_
    refine jw_goto (tgt := 35) dX12_isPlace_31 (by decide) ?_
    refine jw_forget [false, true, true, true, true] (L' := [none, none, none, none, some (.int t0)]) rfl ?_
    exact l_X12_isPlace_b35  hq

set_option maxRecDepth 100000 in
set_option maxHeartbeats 4000000 in
theorem l_X12_isPlace_b21 {hi : jw_H} {h : jw_H} {x0 : Nat} {r : Int32} {h' : jw_H} (hq : g_X12_isPlace_b21  h x0 = some (r, h')) : jw_E 1 uX12_isPlace hi 21 [some (.ref x0), none, none, none, none] [] h (.inl (some (.int r))) h' := by
  unfold g_X12_isPlace_b21 at hq
  refine jw_iconst dX12_isPlace_21 (v := (0 : Int32)) (by decide) ?_
  exact l_X12_isPlace_b22  hq

set_option maxRecDepth 100000 in
set_option maxHeartbeats 4000000 in
theorem l_X12_isPlace {hi : jw_H} {h : jw_H} {x0 : Nat} {x1 : Int32} {x2 : Int32} {x3 : Int32} {r : Int32} {h' : jw_H} (hq : f_X12_isPlace  h x0 x1 x2 x3 = some (r, h')) : jw_E 1 uX12_isPlace hi 0 [some (.ref x0), some (.int x1), some (.int x2), some (.int x3), none] [] h (.inl (some (.int r))) h' := by
  unfold f_X12_isPlace at hq
  refine jw_iload_n dX12_isPlace_0 rfl ?_
  rcases jw_if hq with ⟨c1, hq⟩ | ⟨c1, hq⟩
  · refine jw_if_eq_t (tgt := 21) dX12_isPlace_1 (by decide) c1 ?_
    refine jw_forget [true, false, false, false, true] (L' := [some (.ref x0), none, none, none, none]) rfl ?_
    exact l_X12_isPlace_b21  hq
  · refine jw_if_eq_f (tgt := 21) dX12_isPlace_1 (by decide) c1 ?_
    refine jw_iload_n dX12_isPlace_4 rfl ?_
    rcases jw_if hq with ⟨c2, hq⟩ | ⟨c2, hq⟩
    · refine jw_if_lt_t (tgt := 21) dX12_isPlace_5 (by decide) c2 ?_
      refine jw_forget [true, false, false, false, true] (L' := [some (.ref x0), none, none, none, none]) rfl ?_
      exact l_X12_isPlace_b21  hq
    · refine jw_if_lt_f (tgt := 21) dX12_isPlace_5 (by decide) c2 ?_
      refine jw_iload_n dX12_isPlace_8 rfl ?_
      refine jw_aload_n dX12_isPlace_9 (o := (some x0)) rfl ?_
      refine jw_iload_n dX12_isPlace_10 rfl ?_
      obtain ⟨a3, ea3, hq⟩ := Option.bind_eq_some_iff.mp hq
      obtain ⟨eoa3, eta3⟩ := jw_rc_spec ea3
      obtain ⟨w5, h4, ew5, hq⟩ := jw_b2_spec hq
      refine jw_callV (As := [.int x2]) (S := [.int x3]) (a := a3) (v := some (.int w5)) dX12_isPlace_11 mt_X12_len in_X12_len se_X12_len lk_X12_109 (c_X12_len ew5) eta3 (by decide) rfl rfl (by decide) (Nat.le_of_ble_eq_true rfl) (by cases eoa3; rfl) ?_
      rcases jw_if hq with ⟨c6, hq⟩ | ⟨c6, hq⟩
      · refine jw_icmp_ge_t (tgt := 21) dX12_isPlace_14 (by decide) c6 ?_
        refine jw_forget [true, false, false, false, true] (L' := [some (.ref x0), none, none, none, none]) rfl ?_
        exact l_X12_isPlace_b21  hq
      · refine jw_icmp_ge_f (tgt := 21) dX12_isPlace_14 (by decide) c6 ?_
        refine jw_iconst dX12_isPlace_17 (v := (1 : Int32)) (by decide) ?_
        refine jw_goto (tgt := 22) dX12_isPlace_18 (by decide) ?_
        refine jw_forget [true, false, false, false, true] (L' := [some (.ref x0), none, none, none, none]) rfl ?_
        exact l_X12_isPlace_b22  hq

theorem c_X12_isPlace {h : jw_H} {x0 : Nat} {x1 : Int32} {x2 : Int32} {x3 : Int32} {r : Int32} {h' : jw_H} (hq : f_X12_isPlace h x0 x1 x2 x3 = some (r, h')) : jw_Con (Cond.code yX12_isPlace cX12_isPlace 5 (some .boolean)) yX12_isPlace 1 [.ref x0, .int x1, .int x2, .int x3] h (.inl (some (.int r))) h' :=
  jw_con false (plainFor_of_name (by decide +kernel)) (fun z => nomatch z) (by simp [jw_ent, jw_sl0_nil, jw_sl0_int, jw_sl0_long, jw_sl0_ref, jw_sl0_rf, jw_sl0_scr, List.replicate]) (by simp [jw_sl0_nil, jw_sl0_int, jw_sl0_long, jw_sl0_ref, jw_sl0_rf, jw_sl0_scr]) (l_X12_isPlace hq)


/-! X12_length -/
noncomputable def g_X12_length_b36 (h : jw_H) (t0 : Int32) : Option (Int32 × jw_H) :=
 some (t0, h)

noncomputable def g_X12_length_b14 (h : jw_H) (x0 : Nat) (x1 : Int32) (t0 : Nat) (t1 : Int32) : Option (Int32 × jw_H) :=
 (jw_pI h 12 (some t0) 0 t1).bind fun h1 =>
 (jw_gI h1 12 (some x0) 0).bind fun v2 =>
 if v2 ≤ 0 then (jw_b2 (f_X12_textRow h1 x1) fun w5 h4 =>
 (jw_rc h4 12 (some x0)).bind fun a6 =>
 jw_b2 (f_X12_len h4 a6 w5) fun w8 h7 =>
 g_X12_length_b36  h7 w8)
 else (g_X12_length_b36  h1 (0 : Int32))

noncomputable def f_X12_length (h : jw_H) (x0 : Nat) (x1 : Int32) : Option (Int32 × jw_H) :=
 (jw_rc h 12 (some x0)).bind fun a1 =>
 jw_b2 (f_X12_isLine h a1 x1) fun w3 h2 =>
 if w3 = 0 then (g_X12_length_b14  h2 x0 x1 x0 (1 : Int32))
 else (g_X12_length_b14  h2 x0 x1 x0 (0 : Int32))

set_option maxRecDepth 100000 in
set_option maxHeartbeats 4000000 in
theorem l_X12_length_b36 {hi : jw_H} {h : jw_H} {t0 : Int32} {r : Int32} {h' : jw_H} (hq : g_X12_length_b36  h t0 = some (r, h')) : jw_E 1 uX12_length hi 36 [none, none] [.int t0] h (.inl (some (.int r))) h' := by
  unfold g_X12_length_b36 at hq
  cases hq
  exact jw_iret (ty := .int) dX12_length_36 rfl rfl

set_option maxRecDepth 100000 in
set_option maxHeartbeats 4000000 in
theorem l_X12_length_b14 {hi : jw_H} {h : jw_H} {x0 : Nat} {x1 : Int32} {t0 : Nat} {t1 : Int32} {r : Int32} {h' : jw_H} (hq : g_X12_length_b14  h x0 x1 t0 t1 = some (r, h')) : jw_E 1 uX12_length hi 14 [some (.ref x0), some (.int x1)] [.int t1, .ref t0] h (.inl (some (.int r))) h' := by
  unfold g_X12_length_b14 at hq
  obtain ⟨h1, eh1, hq⟩ := Option.bind_eq_some_iff.mp hq
  refine jw_putI (o := (some t0)) dX12_length_14 eh1 fl_X12_105 rfl rfl ?_
  refine jw_aload_n dX12_length_17 (o := (some x0)) rfl ?_
  obtain ⟨v2, ev2, hq⟩ := Option.bind_eq_some_iff.mp hq
  refine jw_getI (o := (some x0)) dX12_length_18 ev2 fl_X12_105 rfl ?_
  rcases jw_if hq with ⟨c3, hq⟩ | ⟨c3, hq⟩
  · refine jw_if_le_t (tgt := 28) dX12_length_21 (by decide) c3 ?_
    refine jw_aload_n dX12_length_28 (o := (some x0)) rfl ?_
    refine jw_iload_n dX12_length_29 rfl ?_
    obtain ⟨w5, h4, ew5, hq⟩ := jw_b2_spec hq
    refine jw_callS (As := [.int x1]) (S := [.ref x0]) (v := some (.int w5)) dX12_length_30 mt_X12_textRow st_X12_textRow lk_X12_298 (c_X12_textRow ew5) rfl (by decide) (Nat.le_of_ble_eq_true rfl) rfl ?_
    obtain ⟨a6, ea6, hq⟩ := Option.bind_eq_some_iff.mp hq
    obtain ⟨eoa6, eta6⟩ := jw_rc_spec ea6
    obtain ⟨w8, h7, ew8, hq⟩ := jw_b2_spec hq
    refine jw_callV (As := [.int w5]) (S := []) (a := a6) (v := some (.int w8)) dX12_length_33 mt_X12_len in_X12_len se_X12_len lk_X12_109 (c_X12_len ew8) eta6 (by decide) rfl rfl (by decide) (Nat.le_of_ble_eq_true rfl) (by cases eoa6; rfl) ?_
    refine jw_forget [false, false] (L' := [none, none]) rfl ?_
    exact l_X12_length_b36  hq
  · refine jw_if_le_f (tgt := 28) dX12_length_21 (by decide) c3 ?_
    refine jw_iconst dX12_length_24 (v := (0 : Int32)) (by decide) ?_
    refine jw_goto (tgt := 36) dX12_length_25 (by decide) ?_
    refine jw_forget [false, false] (L' := [none, none]) rfl ?_
    exact l_X12_length_b36  hq

set_option maxRecDepth 100000 in
set_option maxHeartbeats 4000000 in
theorem l_X12_length {hi : jw_H} {h : jw_H} {x0 : Nat} {x1 : Int32} {r : Int32} {h' : jw_H} (hq : f_X12_length  h x0 x1 = some (r, h')) : jw_E 1 uX12_length hi 0 [some (.ref x0), some (.int x1)] [] h (.inl (some (.int r))) h' := by
  unfold f_X12_length at hq
  refine jw_aload_n dX12_length_0 (o := (some x0)) rfl ?_
  refine jw_aload_n dX12_length_1 (o := (some x0)) rfl ?_
  refine jw_iload_n dX12_length_2 rfl ?_
  obtain ⟨a1, ea1, hq⟩ := Option.bind_eq_some_iff.mp hq
  obtain ⟨eoa1, eta1⟩ := jw_rc_spec ea1
  obtain ⟨w3, h2, ew3, hq⟩ := jw_b2_spec hq
  refine jw_callV (As := [.int x1]) (S := [.ref x0]) (a := a1) (v := some (.int w3)) dX12_length_3 mt_X12_isLine in_X12_isLine se_X12_isLine lk_X12_703 (c_X12_isLine ew3) eta1 (by decide) rfl rfl (by decide) (Nat.le_of_ble_eq_true rfl) (by cases eoa1; rfl) ?_
  rcases jw_if hq with ⟨c4, hq⟩ | ⟨c4, hq⟩
  · refine jw_if_eq_t (tgt := 13) dX12_length_6 (by decide) c4 ?_
    refine jw_iconst dX12_length_13 (v := (1 : Int32)) (by decide) ?_
    exact l_X12_length_b14  hq
  · refine jw_if_eq_f (tgt := 13) dX12_length_6 (by decide) c4 ?_
    refine jw_iconst dX12_length_9 (v := (0 : Int32)) (by decide) ?_
    refine jw_goto (tgt := 14) dX12_length_10 (by decide) ?_
    exact l_X12_length_b14  hq

theorem c_X12_length {h : jw_H} {x0 : Nat} {x1 : Int32} {r : Int32} {h' : jw_H} (hq : f_X12_length h x0 x1 = some (r, h')) : jw_Con (Cond.code yX12_length cX12_length 2 (some .int)) yX12_length 1 [.ref x0, .int x1] h (.inl (some (.int r))) h' :=
  jw_con false (plainFor_of_name (by decide +kernel)) (fun z => nomatch z) (by simp [jw_ent, jw_sl0_nil, jw_sl0_int, jw_sl0_long, jw_sl0_ref, jw_sl0_rf, jw_sl0_scr, List.replicate]) (by simp [jw_sl0_nil, jw_sl0_int, jw_sl0_long, jw_sl0_ref, jw_sl0_rf, jw_sl0_scr]) (l_X12_length hq)


/-! X12_at -/
noncomputable def g_X12_at_b42 (h : jw_H) (t0 : Int32) : Option (Int32 × jw_H) :=
 some (t0, h)

noncomputable def g_X12_at_b22 (h : jw_H) (x0 : Nat) (x1 : Int32) (x2 : Int32) (t0 : Nat) (t1 : Int32) (t2 : Int32) : Option (Int32 × jw_H) :=
 (jw_rc h 12 (some t0)).bind fun a1 =>
 jw_b2 (f_X12_isPlace h a1 t1 t2 x2) fun w3 h2 =>
 if w3 = 0 then (g_X12_at_b42  h2 (0 : Int32))
 else (jw_b2 (f_X12_textRow h2 x1) fun w6 h5 =>
 (jw_rc h5 12 (some x0)).bind fun a7 =>
 jw_b2 (f_X12_sign h5 a7 w6 x2) fun w9 h8 =>
 g_X12_at_b42  h8 w9)

noncomputable def f_X12_at (h : jw_H) (x0 : Nat) (x1 : Int32) (x2 : Int32) : Option (Int32 × jw_H) :=
 (jw_rc h 12 (some x0)).bind fun a1 =>
 jw_b2 (f_X12_isLine h a1 x1) fun w3 h2 =>
 (jw_rc h2 12 (some x0)).bind fun a4 =>
 jw_b2 (f_X12_isLine h2 a4 x1) fun w6 h5 =>
 if w6 = 0 then (g_X12_at_b22  h5 x0 x1 x2 x0 w3 (0 : Int32))
 else (jw_b2 (f_X12_textRow h5 x1) fun w9 h8 =>
 g_X12_at_b22  h8 x0 x1 x2 x0 w3 w9)

set_option maxRecDepth 100000 in
set_option maxHeartbeats 4000000 in
theorem l_X12_at_b42 {hi : jw_H} {h : jw_H} {t0 : Int32} {r : Int32} {h' : jw_H} (hq : g_X12_at_b42  h t0 = some (r, h')) : jw_E 2 uX12_at hi 42 [none, none, none] [.int t0] h (.inl (some (.int r))) h' := by
  unfold g_X12_at_b42 at hq
  cases hq
  exact jw_iret (ty := .int) dX12_at_42 rfl rfl

set_option maxRecDepth 100000 in
set_option maxHeartbeats 4000000 in
theorem l_X12_at_b22 {hi : jw_H} {h : jw_H} {x0 : Nat} {x1 : Int32} {x2 : Int32} {t0 : Nat} {t1 : Int32} {t2 : Int32} {r : Int32} {h' : jw_H} (hq : g_X12_at_b22  h x0 x1 x2 t0 t1 t2 = some (r, h')) : jw_E 2 uX12_at hi 22 [some (.ref x0), some (.int x1), some (.int x2)] [.int t2, .int t1, .ref t0] h (.inl (some (.int r))) h' := by
  unfold g_X12_at_b22 at hq
  refine jw_iload_n dX12_at_22 rfl ?_
  obtain ⟨a1, ea1, hq⟩ := Option.bind_eq_some_iff.mp hq
  obtain ⟨eoa1, eta1⟩ := jw_rc_spec ea1
  obtain ⟨w3, h2, ew3, hq⟩ := jw_b2_spec hq
  refine jw_callV (As := [.int t1, .int t2, .int x2]) (S := []) (a := a1) (v := some (.int w3)) dX12_at_23 mt_X12_isPlace in_X12_isPlace se_X12_isPlace lk_X12_706 (c_X12_isPlace ew3) eta1 (by decide) rfl rfl (by decide) (Nat.le_of_ble_eq_true rfl) (by cases eoa1; rfl) ?_
  rcases jw_if hq with ⟨c4, hq⟩ | ⟨c4, hq⟩
  · refine jw_if_eq_t (tgt := 41) dX12_at_26 (by decide) c4 ?_
    refine jw_iconst dX12_at_41 (v := (0 : Int32)) (by decide) ?_
    refine jw_forget [false, false, false] (L' := [none, none, none]) rfl ?_
    exact l_X12_at_b42  hq
  · refine jw_if_eq_f (tgt := 41) dX12_at_26 (by decide) c4 ?_
    refine jw_aload_n dX12_at_29 (o := (some x0)) rfl ?_
    refine jw_iload_n dX12_at_30 rfl ?_
    obtain ⟨w6, h5, ew6, hq⟩ := jw_b2_spec hq
    refine jw_callS (As := [.int x1]) (S := [.ref x0]) (v := some (.int w6)) dX12_at_31 mt_X12_textRow st_X12_textRow lk_X12_298 (c_X12_textRow ew6) rfl (by decide) (Nat.le_of_ble_eq_true rfl) rfl ?_
    refine jw_iload_n dX12_at_34 rfl ?_
    obtain ⟨a7, ea7, hq⟩ := Option.bind_eq_some_iff.mp hq
    obtain ⟨eoa7, eta7⟩ := jw_rc_spec ea7
    obtain ⟨w9, h8, ew9, hq⟩ := jw_b2_spec hq
    refine jw_callV (As := [.int w6, .int x2]) (S := []) (a := a7) (v := some (.int w9)) dX12_at_35 mt_X12_sign in_X12_sign se_X12_sign lk_X12_113 (c_X12_sign ew9) eta7 (by decide) rfl rfl (by decide) (Nat.le_of_ble_eq_true rfl) (by cases eoa7; rfl) ?_
    refine jw_goto (tgt := 42) dX12_at_38 (by decide) ?_
    refine jw_forget [false, false, false] (L' := [none, none, none]) rfl ?_
    exact l_X12_at_b42  hq

set_option maxRecDepth 100000 in
set_option maxHeartbeats 4000000 in
theorem l_X12_at {hi : jw_H} {h : jw_H} {x0 : Nat} {x1 : Int32} {x2 : Int32} {r : Int32} {h' : jw_H} (hq : f_X12_at  h x0 x1 x2 = some (r, h')) : jw_E 2 uX12_at hi 0 [some (.ref x0), some (.int x1), some (.int x2)] [] h (.inl (some (.int r))) h' := by
  unfold f_X12_at at hq
  refine jw_aload_n dX12_at_0 (o := (some x0)) rfl ?_
  refine jw_aload_n dX12_at_1 (o := (some x0)) rfl ?_
  refine jw_iload_n dX12_at_2 rfl ?_
  obtain ⟨a1, ea1, hq⟩ := Option.bind_eq_some_iff.mp hq
  obtain ⟨eoa1, eta1⟩ := jw_rc_spec ea1
  obtain ⟨w3, h2, ew3, hq⟩ := jw_b2_spec hq
  refine jw_callV (As := [.int x1]) (S := [.ref x0]) (a := a1) (v := some (.int w3)) dX12_at_3 mt_X12_isLine in_X12_isLine se_X12_isLine lk_X12_703 (c_X12_isLine ew3) eta1 (by decide) rfl rfl (by decide) (Nat.le_of_ble_eq_true rfl) (by cases eoa1; rfl) ?_
  refine jw_aload_n dX12_at_6 (o := (some x0)) rfl ?_
  refine jw_iload_n dX12_at_7 rfl ?_
  obtain ⟨a4, ea4, hq⟩ := Option.bind_eq_some_iff.mp hq
  obtain ⟨eoa4, eta4⟩ := jw_rc_spec ea4
  obtain ⟨w6, h5, ew6, hq⟩ := jw_b2_spec hq
  refine jw_callV (As := [.int x1]) (S := [.int w3, .ref x0]) (a := a4) (v := some (.int w6)) dX12_at_8 mt_X12_isLine in_X12_isLine se_X12_isLine lk_X12_703 (c_X12_isLine ew6) eta4 (by decide) rfl rfl (by decide) (Nat.le_of_ble_eq_true rfl) (by cases eoa4; rfl) ?_
  rcases jw_if hq with ⟨c7, hq⟩ | ⟨c7, hq⟩
  · refine jw_if_eq_t (tgt := 21) dX12_at_11 (by decide) c7 ?_
    refine jw_iconst dX12_at_21 (v := (0 : Int32)) (by decide) ?_
    exact l_X12_at_b22  hq
  · refine jw_if_eq_f (tgt := 21) dX12_at_11 (by decide) c7 ?_
    refine jw_iload_n dX12_at_14 rfl ?_
    obtain ⟨w9, h8, ew9, hq⟩ := jw_b2_spec hq
    refine jw_callS (As := [.int x1]) (S := [.int w3, .ref x0]) (v := some (.int w9)) dX12_at_15 mt_X12_textRow st_X12_textRow lk_X12_298 (c_X12_textRow ew9) rfl (by decide) (Nat.le_of_ble_eq_true rfl) rfl ?_
    refine jw_goto (tgt := 22) dX12_at_18 (by decide) ?_
    exact l_X12_at_b22  hq

theorem c_X12_at {h : jw_H} {x0 : Nat} {x1 : Int32} {x2 : Int32} {r : Int32} {h' : jw_H} (hq : f_X12_at h x0 x1 x2 = some (r, h')) : jw_Con (Cond.code yX12_at cX12_at 3 (some .int)) yX12_at 2 [.ref x0, .int x1, .int x2] h (.inl (some (.int r))) h' :=
  jw_con false (plainFor_of_name (by decide +kernel)) (fun z => nomatch z) (by simp [jw_ent, jw_sl0_nil, jw_sl0_int, jw_sl0_long, jw_sl0_ref, jw_sl0_rf, jw_sl0_scr, List.replicate]) (by simp [jw_sl0_nil, jw_sl0_int, jw_sl0_long, jw_sl0_ref, jw_sl0_rf, jw_sl0_scr]) (l_X12_at hq)


/-! X12_id -/
noncomputable def g_X12_id_b36 (h : jw_H) (t0 : Int32) : Option (Int32 × jw_H) :=
 some (t0, h)

noncomputable def g_X12_id_b14 (h : jw_H) (x0 : Nat) (x1 : Int32) (t0 : Nat) (t1 : Int32) : Option (Int32 × jw_H) :=
 (jw_pI h 12 (some t0) 0 t1).bind fun h1 =>
 (jw_gI h1 12 (some x0) 0).bind fun v2 =>
 if v2 ≤ 0 then ((jw_gR h1 12 (some x0) 7).bind fun v4 =>
 (jw_ai h1 20 v4 (x1 - (1 : Int32))).bind fun v5 =>
 g_X12_id_b36  h1 v5)
 else (g_X12_id_b36  h1 (0 : Int32))

noncomputable def f_X12_id (h : jw_H) (x0 : Nat) (x1 : Int32) : Option (Int32 × jw_H) :=
 (jw_rc h 12 (some x0)).bind fun a1 =>
 jw_b2 (f_X12_isLine h a1 x1) fun w3 h2 =>
 if w3 = 0 then (g_X12_id_b14  h2 x0 x1 x0 (1 : Int32))
 else (g_X12_id_b14  h2 x0 x1 x0 (0 : Int32))

set_option maxRecDepth 100000 in
set_option maxHeartbeats 4000000 in
theorem l_X12_id_b36 {hi : jw_H} {h : jw_H} {t0 : Int32} {r : Int32} {h' : jw_H} (hq : g_X12_id_b36  h t0 = some (r, h')) : jw_E 1 uX12_id hi 36 [none, none] [.int t0] h (.inl (some (.int r))) h' := by
  unfold g_X12_id_b36 at hq
  cases hq
  exact jw_iret (ty := .int) dX12_id_36 rfl rfl

set_option maxRecDepth 100000 in
set_option maxHeartbeats 4000000 in
theorem l_X12_id_b14 {hi : jw_H} {h : jw_H} {x0 : Nat} {x1 : Int32} {t0 : Nat} {t1 : Int32} {r : Int32} {h' : jw_H} (hq : g_X12_id_b14  h x0 x1 t0 t1 = some (r, h')) : jw_E 1 uX12_id hi 14 [some (.ref x0), some (.int x1)] [.int t1, .ref t0] h (.inl (some (.int r))) h' := by
  unfold g_X12_id_b14 at hq
  obtain ⟨h1, eh1, hq⟩ := Option.bind_eq_some_iff.mp hq
  refine jw_putI (o := (some t0)) dX12_id_14 eh1 fl_X12_105 rfl rfl ?_
  refine jw_aload_n dX12_id_17 (o := (some x0)) rfl ?_
  obtain ⟨v2, ev2, hq⟩ := Option.bind_eq_some_iff.mp hq
  refine jw_getI (o := (some x0)) dX12_id_18 ev2 fl_X12_105 rfl ?_
  rcases jw_if hq with ⟨c3, hq⟩ | ⟨c3, hq⟩
  · refine jw_if_le_t (tgt := 28) dX12_id_21 (by decide) c3 ?_
    refine jw_aload_n dX12_id_28 (o := (some x0)) rfl ?_
    obtain ⟨v4, ev4, hq⟩ := Option.bind_eq_some_iff.mp hq
    refine jw_getR (o := (some x0)) dX12_id_29 ev4 fl_X12_26 rfl ?_
    refine jw_iload_n dX12_id_32 rfl ?_
    refine jw_iconst dX12_id_33 (v := (1 : Int32)) (by decide) ?_
    refine jw_isub dX12_id_34 ?_
    obtain ⟨v5, ev5, hq⟩ := Option.bind_eq_some_iff.mp hq
    refine jw_iald (o := v4) dX12_id_35 ev5 ?_
    refine jw_forget [false, false] (L' := [none, none]) rfl ?_
    exact l_X12_id_b36  hq
  · refine jw_if_le_f (tgt := 28) dX12_id_21 (by decide) c3 ?_
    refine jw_iconst dX12_id_24 (v := (0 : Int32)) (by decide) ?_
    refine jw_goto (tgt := 36) dX12_id_25 (by decide) ?_
    refine jw_forget [false, false] (L' := [none, none]) rfl ?_
    exact l_X12_id_b36  hq

set_option maxRecDepth 100000 in
set_option maxHeartbeats 4000000 in
theorem l_X12_id {hi : jw_H} {h : jw_H} {x0 : Nat} {x1 : Int32} {r : Int32} {h' : jw_H} (hq : f_X12_id  h x0 x1 = some (r, h')) : jw_E 1 uX12_id hi 0 [some (.ref x0), some (.int x1)] [] h (.inl (some (.int r))) h' := by
  unfold f_X12_id at hq
  refine jw_aload_n dX12_id_0 (o := (some x0)) rfl ?_
  refine jw_aload_n dX12_id_1 (o := (some x0)) rfl ?_
  refine jw_iload_n dX12_id_2 rfl ?_
  obtain ⟨a1, ea1, hq⟩ := Option.bind_eq_some_iff.mp hq
  obtain ⟨eoa1, eta1⟩ := jw_rc_spec ea1
  obtain ⟨w3, h2, ew3, hq⟩ := jw_b2_spec hq
  refine jw_callV (As := [.int x1]) (S := [.ref x0]) (a := a1) (v := some (.int w3)) dX12_id_3 mt_X12_isLine in_X12_isLine se_X12_isLine lk_X12_703 (c_X12_isLine ew3) eta1 (by decide) rfl rfl (by decide) (Nat.le_of_ble_eq_true rfl) (by cases eoa1; rfl) ?_
  rcases jw_if hq with ⟨c4, hq⟩ | ⟨c4, hq⟩
  · refine jw_if_eq_t (tgt := 13) dX12_id_6 (by decide) c4 ?_
    refine jw_iconst dX12_id_13 (v := (1 : Int32)) (by decide) ?_
    exact l_X12_id_b14  hq
  · refine jw_if_eq_f (tgt := 13) dX12_id_6 (by decide) c4 ?_
    refine jw_iconst dX12_id_9 (v := (0 : Int32)) (by decide) ?_
    refine jw_goto (tgt := 14) dX12_id_10 (by decide) ?_
    exact l_X12_id_b14  hq

theorem c_X12_id {h : jw_H} {x0 : Nat} {x1 : Int32} {r : Int32} {h' : jw_H} (hq : f_X12_id h x0 x1 = some (r, h')) : jw_Con (Cond.code yX12_id cX12_id 2 (some .int)) yX12_id 1 [.ref x0, .int x1] h (.inl (some (.int r))) h' :=
  jw_con false (plainFor_of_name (by decide +kernel)) (fun z => nomatch z) (by simp [jw_ent, jw_sl0_nil, jw_sl0_int, jw_sl0_long, jw_sl0_ref, jw_sl0_rf, jw_sl0_scr, List.replicate]) (by simp [jw_sl0_nil, jw_sl0_int, jw_sl0_long, jw_sl0_ref, jw_sl0_rf, jw_sl0_scr]) (l_X12_id hq)


/-! X12_lineOf -/
noncomputable def g_X12_lineOf_b20 (h : jw_H) (t0 : Int32) : Option (Int32 × jw_H) :=
 some (t0, h)

noncomputable def f_X12_lineOf (h : jw_H) (x0 : Nat) (x1 : Int32) : Option (Int32 × jw_H) :=
 (jw_pI h 12 (some x0) 0 (0 : Int32)).bind fun h1 =>
 (jw_rc h1 12 (some x0)).bind fun a2 =>
 jw_b2 (f_X12_lineWith h1 a2 x1) fun w4 h3 =>
 if w4 ≤ 0 then (g_X12_lineOf_b20  h3 (-1 : Int32))
 else (g_X12_lineOf_b20  h3 w4)

set_option maxRecDepth 100000 in
set_option maxHeartbeats 4000000 in
theorem l_X12_lineOf_b20 {hi : jw_H} {h : jw_H} {t0 : Int32} {r : Int32} {h' : jw_H} (hq : g_X12_lineOf_b20  h t0 = some (r, h')) : jw_E 1 uX12_lineOf hi 20 [none, none, none] [.int t0] h (.inl (some (.int r))) h' := by
  unfold g_X12_lineOf_b20 at hq
  cases hq
  exact jw_iret (ty := .int) dX12_lineOf_20 rfl rfl

set_option maxRecDepth 100000 in
set_option maxHeartbeats 4000000 in
theorem l_X12_lineOf {hi : jw_H} {h : jw_H} {x0 : Nat} {x1 : Int32} {r : Int32} {h' : jw_H} (hq : f_X12_lineOf  h x0 x1 = some (r, h')) : jw_E 1 uX12_lineOf hi 0 [some (.ref x0), some (.int x1), none] [] h (.inl (some (.int r))) h' := by
  unfold f_X12_lineOf at hq
  refine jw_aload_n dX12_lineOf_0 (o := (some x0)) rfl ?_
  refine jw_iconst dX12_lineOf_1 (v := (0 : Int32)) (by decide) ?_
  obtain ⟨h1, eh1, hq⟩ := Option.bind_eq_some_iff.mp hq
  refine jw_putI (o := (some x0)) dX12_lineOf_2 eh1 fl_X12_105 rfl rfl ?_
  refine jw_aload_n dX12_lineOf_5 (o := (some x0)) rfl ?_
  refine jw_iload_n dX12_lineOf_6 rfl ?_
  obtain ⟨a2, ea2, hq⟩ := Option.bind_eq_some_iff.mp hq
  obtain ⟨eoa2, eta2⟩ := jw_rc_spec ea2
  obtain ⟨w4, h3, ew4, hq⟩ := jw_b2_spec hq
  refine jw_callV (As := [.int x1]) (S := []) (a := a2) (v := some (.int w4)) dX12_lineOf_7 mt_X12_lineWith in_X12_lineWith se_X12_lineWith lk_X12_307 (c_X12_lineWith ew4) eta2 (by decide) rfl rfl (by decide) (Nat.le_of_ble_eq_true rfl) (by cases eoa2; rfl) ?_
  refine jw_istore_n (L' := [some (.ref x0), some (.int x1), some (.int w4)]) dX12_lineOf_10 (Nat.le_of_ble_eq_true rfl) rfl ?_
  refine jw_iload_n dX12_lineOf_11 rfl ?_
  rcases jw_if hq with ⟨c5, hq⟩ | ⟨c5, hq⟩
  · refine jw_if_le_t (tgt := 19) dX12_lineOf_12 (by decide) c5 ?_
    refine jw_iconst dX12_lineOf_19 (v := (-1 : Int32)) (by decide) ?_
    refine jw_forget [false, false, false] (L' := [none, none, none]) rfl ?_
    exact l_X12_lineOf_b20  hq
  · refine jw_if_le_f (tgt := 19) dX12_lineOf_12 (by decide) c5 ?_
    refine jw_iload_n dX12_lineOf_15 rfl ?_
    refine jw_goto (tgt := 20) dX12_lineOf_16 (by decide) ?_
    refine jw_forget [false, false, false] (L' := [none, none, none]) rfl ?_
    exact l_X12_lineOf_b20  hq

theorem c_X12_lineOf {h : jw_H} {x0 : Nat} {x1 : Int32} {r : Int32} {h' : jw_H} (hq : f_X12_lineOf h x0 x1 = some (r, h')) : jw_Con (Cond.code yX12_lineOf cX12_lineOf 3 (some .int)) yX12_lineOf 1 [.ref x0, .int x1] h (.inl (some (.int r))) h' :=
  jw_con false (plainFor_of_name (by decide +kernel)) (fun z => nomatch z) (by simp [jw_ent, jw_sl0_nil, jw_sl0_int, jw_sl0_long, jw_sl0_ref, jw_sl0_rf, jw_sl0_scr, List.replicate]) (by simp [jw_sl0_nil, jw_sl0_int, jw_sl0_long, jw_sl0_ref, jw_sl0_rf, jw_sl0_scr]) (l_X12_lineOf hq)


/-! X12_present -/
noncomputable def f_X12_present (h : jw_H) (x0 : Nat) : Option (Int32 × jw_H) :=
 (jw_pI h 12 (some x0) 0 (0 : Int32)).bind fun h1 =>
 (jw_gI h1 12 (some x0) 16).bind fun v2 =>
 some (v2, h1)

set_option maxRecDepth 100000 in
set_option maxHeartbeats 4000000 in
theorem l_X12_present {hi : jw_H} {h : jw_H} {x0 : Nat} {r : Int32} {h' : jw_H} (hq : f_X12_present  h x0 = some (r, h')) : jw_E 0 uX12_present hi 0 [some (.ref x0)] [] h (.inl (some (.int r))) h' := by
  unfold f_X12_present at hq
  refine jw_aload_n dX12_present_0 (o := (some x0)) rfl ?_
  refine jw_iconst dX12_present_1 (v := (0 : Int32)) (by decide) ?_
  obtain ⟨h1, eh1, hq⟩ := Option.bind_eq_some_iff.mp hq
  refine jw_putI (o := (some x0)) dX12_present_2 eh1 fl_X12_105 rfl rfl ?_
  refine jw_aload_n dX12_present_5 (o := (some x0)) rfl ?_
  obtain ⟨v2, ev2, hq⟩ := Option.bind_eq_some_iff.mp hq
  refine jw_getI (o := (some x0)) dX12_present_6 ev2 fl_X12_295 rfl ?_
  cases hq
  exact jw_iret (ty := .int) dX12_present_9 rfl rfl

theorem c_X12_present {h : jw_H} {x0 : Nat} {r : Int32} {h' : jw_H} (hq : f_X12_present h x0 = some (r, h')) : jw_Con (Cond.code yX12_present cX12_present 1 (some .int)) yX12_present 0 [.ref x0] h (.inl (some (.int r))) h' :=
  jw_con false (plainFor_of_name (by decide +kernel)) (fun z => nomatch z) (by simp [jw_ent, jw_sl0_nil, jw_sl0_int, jw_sl0_long, jw_sl0_ref, jw_sl0_rf, jw_sl0_scr, List.replicate]) (by simp [jw_sl0_nil, jw_sl0_int, jw_sl0_long, jw_sl0_ref, jw_sl0_rf, jw_sl0_scr]) (l_X12_present hq)


/-! X12_mark -/
noncomputable def g_X12_mark_b46 (h : jw_H) (t0 : Int32) : Option (Int32 × jw_H) :=
 some (t0, h)

noncomputable def g_X12_mark_b34 (h : jw_H) (x0 : Nat) : Option (Int32 × jw_H) :=
 (jw_gI h 12 (some x0) 0).bind fun v1 =>
 if v1 ≤ 0 then (g_X12_mark_b46  h (-1 : Int32))
 else (g_X12_mark_b46  h (0 : Int32))

noncomputable def g_X12_mark_b15 (h : jw_H) (x0 : Nat) (x1 : Int32) (t0 : Nat) (t1 : Int32) : Option (Int32 × jw_H) :=
 (jw_pI h 12 (some t0) 0 t1).bind fun h1 =>
 (jw_gI h1 12 (some x0) 0).bind fun v2 =>
 if 0 < v2 then (g_X12_mark_b34  h1 x0)
 else ((jw_gR h1 12 (some x0) 10).bind fun v4 =>
 (jw_ai h1 20 v4 x1).bind fun v5 =>
 if 0 ≤ v5 then ((jw_gR h1 12 (some x0) 10).bind fun v7 =>
 (jw_ai h1 20 v7 x1).bind fun v8 =>
 (jw_rc h1 12 (some x0)).bind fun a9 =>
 jw_b2 (f_X12_lineWith h1 a9 v8) fun w11 h10 =>
 some (w11, h10))
 else (g_X12_mark_b34  h1 x0))

noncomputable def g_X12_mark_b14 (h : jw_H) (x0 : Nat) (x1 : Int32) (t0 : Nat) : Option (Int32 × jw_H) :=
 g_X12_mark_b15  h x0 x1 t0 (1 : Int32)

noncomputable def f_X12_mark (h : jw_H) (x0 : Nat) (x1 : Int32) : Option (Int32 × jw_H) :=
 if x1 < 0 then (g_X12_mark_b14  h x0 x1 x0)
 else (if (5 : Int32) ≤ x1 then (g_X12_mark_b14  h x0 x1 x0)
 else (g_X12_mark_b15  h x0 x1 x0 (0 : Int32)))

set_option maxRecDepth 100000 in
set_option maxHeartbeats 4000000 in
theorem l_X12_mark_b46 {hi : jw_H} {h : jw_H} {t0 : Int32} {r : Int32} {h' : jw_H} (hq : g_X12_mark_b46  h t0 = some (r, h')) : jw_E 1 uX12_mark hi 46 [none, none] [.int t0] h (.inl (some (.int r))) h' := by
  unfold g_X12_mark_b46 at hq
  cases hq
  exact jw_iret (ty := .int) dX12_mark_46 rfl rfl

set_option maxRecDepth 100000 in
set_option maxHeartbeats 4000000 in
theorem l_X12_mark_b34 {hi : jw_H} {h : jw_H} {x0 : Nat} {r : Int32} {h' : jw_H} (hq : g_X12_mark_b34  h x0 = some (r, h')) : jw_E 1 uX12_mark hi 34 [some (.ref x0), none] [] h (.inl (some (.int r))) h' := by
  unfold g_X12_mark_b34 at hq
  refine jw_aload_n dX12_mark_34 (o := (some x0)) rfl ?_
  obtain ⟨v1, ev1, hq⟩ := Option.bind_eq_some_iff.mp hq
  refine jw_getI (o := (some x0)) dX12_mark_35 ev1 fl_X12_105 rfl ?_
  rcases jw_if hq with ⟨c2, hq⟩ | ⟨c2, hq⟩
  · refine jw_if_le_t (tgt := 45) dX12_mark_38 (by decide) c2 ?_
    refine jw_iconst dX12_mark_45 (v := (-1 : Int32)) (by decide) ?_
    refine jw_forget [false, true] (L' := [none, none]) rfl ?_
    exact l_X12_mark_b46  hq
  · refine jw_if_le_f (tgt := 45) dX12_mark_38 (by decide) c2 ?_
    refine jw_iconst dX12_mark_41 (v := (0 : Int32)) (by decide) ?_
    refine jw_goto (tgt := 46) dX12_mark_42 (by decide) ?_
    refine jw_forget [false, true] (L' := [none, none]) rfl ?_
    exact l_X12_mark_b46  hq

set_option maxRecDepth 100000 in
set_option maxHeartbeats 4000000 in
theorem l_X12_mark_b15 {hi : jw_H} {h : jw_H} {x0 : Nat} {x1 : Int32} {t0 : Nat} {t1 : Int32} {r : Int32} {h' : jw_H} (hq : g_X12_mark_b15  h x0 x1 t0 t1 = some (r, h')) : jw_E 1 uX12_mark hi 15 [some (.ref x0), some (.int x1)] [.int t1, .ref t0] h (.inl (some (.int r))) h' := by
  unfold g_X12_mark_b15 at hq
  obtain ⟨h1, eh1, hq⟩ := Option.bind_eq_some_iff.mp hq
  refine jw_putI (o := (some t0)) dX12_mark_15 eh1 fl_X12_105 rfl rfl ?_
  refine jw_aload_n dX12_mark_18 (o := (some x0)) rfl ?_
  obtain ⟨v2, ev2, hq⟩ := Option.bind_eq_some_iff.mp hq
  refine jw_getI (o := (some x0)) dX12_mark_19 ev2 fl_X12_105 rfl ?_
  rcases jw_if hq with ⟨c3, hq⟩ | ⟨c3, hq⟩
  · refine jw_if_gt_t (tgt := 34) dX12_mark_22 (by decide) c3 ?_
    refine jw_forget [true, false] (L' := [some (.ref x0), none]) rfl ?_
    exact l_X12_mark_b34  hq
  · refine jw_if_gt_f (tgt := 34) dX12_mark_22 (by decide) c3 ?_
    refine jw_aload_n dX12_mark_25 (o := (some x0)) rfl ?_
    obtain ⟨v4, ev4, hq⟩ := Option.bind_eq_some_iff.mp hq
    refine jw_getR (o := (some x0)) dX12_mark_26 ev4 fl_X12_35 rfl ?_
    refine jw_iload_n dX12_mark_29 rfl ?_
    obtain ⟨v5, ev5, hq⟩ := Option.bind_eq_some_iff.mp hq
    refine jw_iald (o := v4) dX12_mark_30 ev5 ?_
    rcases jw_if hq with ⟨c6, hq⟩ | ⟨c6, hq⟩
    · refine jw_if_ge_t (tgt := 47) dX12_mark_31 (by decide) c6 ?_
      refine jw_aload_n dX12_mark_47 (o := (some x0)) rfl ?_
      refine jw_aload_n dX12_mark_48 (o := (some x0)) rfl ?_
      obtain ⟨v7, ev7, hq⟩ := Option.bind_eq_some_iff.mp hq
      refine jw_getR (o := (some x0)) dX12_mark_49 ev7 fl_X12_35 rfl ?_
      refine jw_iload_n dX12_mark_52 rfl ?_
      obtain ⟨v8, ev8, hq⟩ := Option.bind_eq_some_iff.mp hq
      refine jw_iald (o := v7) dX12_mark_53 ev8 ?_
      obtain ⟨a9, ea9, hq⟩ := Option.bind_eq_some_iff.mp hq
      obtain ⟨eoa9, eta9⟩ := jw_rc_spec ea9
      obtain ⟨w11, h10, ew11, hq⟩ := jw_b2_spec hq
      refine jw_callV (As := [.int v8]) (S := []) (a := a9) (v := some (.int w11)) dX12_mark_54 mt_X12_lineWith in_X12_lineWith se_X12_lineWith lk_X12_307 (c_X12_lineWith ew11) eta9 (by decide) rfl rfl (by decide) (Nat.le_of_ble_eq_true rfl) (by cases eoa9; rfl) ?_
      cases hq
      exact jw_iret (ty := .int) dX12_mark_57 rfl rfl
    · refine jw_if_ge_f (tgt := 47) dX12_mark_31 (by decide) c6 ?_
      refine jw_forget [true, false] (L' := [some (.ref x0), none]) rfl ?_
      exact l_X12_mark_b34  hq

set_option maxRecDepth 100000 in
set_option maxHeartbeats 4000000 in
theorem l_X12_mark_b14 {hi : jw_H} {h : jw_H} {x0 : Nat} {x1 : Int32} {t0 : Nat} {r : Int32} {h' : jw_H} (hq : g_X12_mark_b14  h x0 x1 t0 = some (r, h')) : jw_E 1 uX12_mark hi 14 [some (.ref x0), some (.int x1)] [.ref t0] h (.inl (some (.int r))) h' := by
  unfold g_X12_mark_b14 at hq
  refine jw_iconst dX12_mark_14 (v := (1 : Int32)) (by decide) ?_
  exact l_X12_mark_b15  hq

set_option maxRecDepth 100000 in
set_option maxHeartbeats 4000000 in
theorem l_X12_mark {hi : jw_H} {h : jw_H} {x0 : Nat} {x1 : Int32} {r : Int32} {h' : jw_H} (hq : f_X12_mark  h x0 x1 = some (r, h')) : jw_E 1 uX12_mark hi 0 [some (.ref x0), some (.int x1)] [] h (.inl (some (.int r))) h' := by
  unfold f_X12_mark at hq
  refine jw_aload_n dX12_mark_0 (o := (some x0)) rfl ?_
  refine jw_iload_n dX12_mark_1 rfl ?_
  rcases jw_if hq with ⟨c1, hq⟩ | ⟨c1, hq⟩
  · refine jw_if_lt_t (tgt := 14) dX12_mark_2 (by decide) c1 ?_
    exact l_X12_mark_b14  hq
  · refine jw_if_lt_f (tgt := 14) dX12_mark_2 (by decide) c1 ?_
    refine jw_iload_n dX12_mark_5 rfl ?_
    refine jw_iconst dX12_mark_6 (v := (5 : Int32)) (by decide) ?_
    rcases jw_if hq with ⟨c2, hq⟩ | ⟨c2, hq⟩
    · refine jw_icmp_ge_t (tgt := 14) dX12_mark_7 (by decide) c2 ?_
      exact l_X12_mark_b14  hq
    · refine jw_icmp_ge_f (tgt := 14) dX12_mark_7 (by decide) c2 ?_
      refine jw_iconst dX12_mark_10 (v := (0 : Int32)) (by decide) ?_
      refine jw_goto (tgt := 15) dX12_mark_11 (by decide) ?_
      exact l_X12_mark_b15  hq

theorem c_X12_mark {h : jw_H} {x0 : Nat} {x1 : Int32} {r : Int32} {h' : jw_H} (hq : f_X12_mark h x0 x1 = some (r, h')) : jw_Con (Cond.code yX12_mark cX12_mark 2 (some .int)) yX12_mark 1 [.ref x0, .int x1] h (.inl (some (.int r))) h' :=
  jw_con false (plainFor_of_name (by decide +kernel)) (fun z => nomatch z) (by simp [jw_ent, jw_sl0_nil, jw_sl0_int, jw_sl0_long, jw_sl0_ref, jw_sl0_rf, jw_sl0_scr, List.replicate]) (by simp [jw_sl0_nil, jw_sl0_int, jw_sl0_long, jw_sl0_ref, jw_sl0_rf, jw_sl0_scr]) (l_X12_mark hq)


/-! X12_lot -/
noncomputable def f_X12_lot (h : jw_H) (x0 : Nat) (x1 : Int32) : Option (Int32 × jw_H) :=
 (jw_gI h 12 (some x0) 77).bind fun v1 =>
 (jw_pI h 12 (some x0) 77 ((((25173 : Int32) * v1) + (13849 : Int32)) - (((25173 : Int32) * v1) + (13849 : Int32)) / (65536 : Int32) * (65536 : Int32))).bind fun h2 =>
 (jw_gI h2 12 (some x0) 77).bind fun v3 =>
 (jw_nz x1).bind fun v4 =>
 some (((v3 / (16 : Int32)) - (v3 / (16 : Int32)) / x1 * x1), h2)

set_option maxRecDepth 100000 in
set_option maxHeartbeats 4000000 in
theorem l_X12_lot {hi : jw_H} {h : jw_H} {x0 : Nat} {x1 : Int32} {r : Int32} {h' : jw_H} (hq : f_X12_lot  h x0 x1 = some (r, h')) : jw_E 0 uX12_lot hi 0 [some (.ref x0), some (.int x1)] [] h (.inl (some (.int r))) h' := by
  unfold f_X12_lot at hq
  refine jw_aload_n dX12_lot_0 (o := (some x0)) rfl ?_
  refine jw_sipush dX12_lot_1 (v := (25173 : Int32)) (by decide) ?_
  refine jw_aload_n dX12_lot_4 (o := (some x0)) rfl ?_
  obtain ⟨v1, ev1, hq⟩ := Option.bind_eq_some_iff.mp hq
  refine jw_getI (o := (some x0)) dX12_lot_5 ev1 fl_X12_710 rfl ?_
  refine jw_imul dX12_lot_8 ?_
  refine jw_sipush dX12_lot_9 (v := (13849 : Int32)) (by decide) ?_
  refine jw_iadd dX12_lot_12 ?_
  refine jw_ldcw dX12_lot_13 cw_X12_713 ?_
  refine jw_irem dX12_lot_16 (by decide) ?_
  obtain ⟨h2, eh2, hq⟩ := Option.bind_eq_some_iff.mp hq
  refine jw_putI (o := (some x0)) dX12_lot_17 eh2 fl_X12_710 rfl rfl ?_
  refine jw_aload_n dX12_lot_20 (o := (some x0)) rfl ?_
  obtain ⟨v3, ev3, hq⟩ := Option.bind_eq_some_iff.mp hq
  refine jw_getI (o := (some x0)) dX12_lot_21 ev3 fl_X12_710 rfl ?_
  refine jw_bipush dX12_lot_24 (v := (16 : Int32)) (by decide) ?_
  refine jw_idiv dX12_lot_26 (by decide) ?_
  refine jw_iload_n dX12_lot_27 rfl ?_
  obtain ⟨v4, ev4, hq⟩ := Option.bind_eq_some_iff.mp hq
  refine jw_irem dX12_lot_28 (jw_nz_spec ev4) ?_
  cases hq
  exact jw_iret (ty := .int) dX12_lot_29 rfl rfl

theorem c_X12_lot {h : jw_H} {x0 : Nat} {x1 : Int32} {r : Int32} {h' : jw_H} (hq : f_X12_lot h x0 x1 = some (r, h')) : jw_Con (Cond.code yX12_lot cX12_lot 2 (some .int)) yX12_lot 0 [.ref x0, .int x1] h (.inl (some (.int r))) h' :=
  jw_con false (plainFor_of_name (by decide +kernel)) (fun z => nomatch z) (by simp [jw_ent, jw_sl0_nil, jw_sl0_int, jw_sl0_long, jw_sl0_ref, jw_sl0_rf, jw_sl0_scr, List.replicate]) (by simp [jw_sl0_nil, jw_sl0_int, jw_sl0_long, jw_sl0_ref, jw_sl0_rf, jw_sl0_scr]) (l_X12_lot hq)


/-! X12_sample -/
noncomputable def g_X12_sample_b141 (k109 : jw_H → Nat → Int32 → Int32 → Int32 → Int32 → Option (Int32 × jw_H)) (h : jw_H) (x0 : Nat) (x2 : Int32) (x4 : Int32) (x5 : Int32) (x6 : Int32) (t0 : Nat) (t1 : Int32) : Option (Int32 × jw_H) :=
 (jw_rc h 12 (some t0)).bind fun a1 =>
 jw_b2 (f_X12_makes h a1 t1) fun w3 h2 =>
 k109 h2 x0 x2 x4 x5 (x6 + (1 : Int32))

noncomputable def g_X12_sample_b109 (k87 : jw_H → Nat → Int32 → Int32 → Option (Int32 × jw_H)) (k109 : jw_H → Nat → Int32 → Int32 → Int32 → Int32 → Option (Int32 × jw_H)) (h : jw_H) (x0 : Nat) (x2 : Int32) (x4 : Int32) (x5 : Int32) (x6 : Int32) : Option (Int32 × jw_H) :=
 if x5 ≤ x6 then ((jw_rc h 12 (some x0)).bind fun a2 =>
 jw_b2 (f_X12_lays h a2 (429 : Int32)) fun w4 h3 =>
 (jw_gI h3 12 (some x0) 12).bind fun v5 =>
 (jw_rc h3 12 (some x0)).bind fun a6 =>
 jw_b2 (f_X12_bring h3 a6 (429 : Int32) v5) fun w8 h7 =>
 k87 h7 x0 x2 (x4 + (1 : Int32)))
 else ((jw_rc h 12 (some x0)).bind fun a9 =>
 jw_b2 (f_X12_lot h a9 (6 : Int32)) fun w11 h10 =>
 if w11 = (5 : Int32) then (g_X12_sample_b141 k109 h10 x0 x2 x4 x5 x6 x0 (32 : Int32))
 else (g_X12_sample_b141 k109 h10 x0 x2 x4 x5 x6 x0 ((97 : Int32) + w11)))

noncomputable def f_X12_sample_b109 (k87 : jw_H → Nat → Int32 → Int32 → Option (Int32 × jw_H)) (n : Nat) : jw_H → Nat → Int32 → Int32 → Int32 → Int32 → Option (Int32 × jw_H) :=
 Nat.rec (fun _ _ _ _ _ _ => none) (fun _ k109 => g_X12_sample_b109 k87 k109) n

noncomputable def g_X12_sample_b87 (k87 : jw_H → Nat → Int32 → Int32 → Option (Int32 × jw_H)) (h : jw_H) (x0 : Nat) (x2 : Int32) (x4 : Int32) : Option (Int32 × jw_H) :=
 if x2 ≤ x4 then ((jw_gI h 12 (some x0) 12).bind fun v2 =>
 (jw_pI h 12 (some x0) 16 v2).bind fun h3 =>
 (jw_rc h3 12 (some x0)).bind fun a4 =>
 jw_b2 (f_X12_noteDeed h3 a4) fun w6 h5 =>
 (jw_gI h5 12 (some x0) 12).bind fun v7 =>
 some (v7, h5))
 else ((jw_rc h 12 (some x0)).bind fun a8 =>
 jw_b2 (f_X12_lot h a8 (9 : Int32)) fun w10 h9 =>
 (jw_pI h9 12 (some x0) 20 (0 : Int32)).bind fun h11 =>
 f_X12_sample_b109 k87 jw_FU h11 x0 x2 x4 w10 (0 : Int32))

noncomputable def f_X12_sample_b87 (n : Nat) : jw_H → Nat → Int32 → Int32 → Option (Int32 × jw_H) :=
 Nat.rec (fun _ _ _ _ => none) (fun _ k87 => g_X12_sample_b87 k87) n

noncomputable def g_X12_sample_b53 (h : jw_H) (x0 : Nat) (x1 : Int32) (x2 : Int32) (t0 : Nat) (t1 : Int32) : Option (Int32 × jw_H) :=
 (jw_pI h 12 (some t0) 0 t1).bind fun h1 =>
 (jw_gI h1 12 (some x0) 0).bind fun v2 =>
 if v2 ≤ 0 then ((jw_gI h1 12 (some x0) 63).bind fun v4 =>
 (jw_pI h1 12 (some x0) 63 (v4 + (1 : Int32))).bind fun h5 =>
 (jw_rc h5 12 (some x0)).bind fun a6 =>
 jw_b2 (f_X12_save h5 a6) fun w8 h7 =>
 (jw_pI h7 12 (some x0) 77 x1).bind fun h9 =>
 f_X12_sample_b87  jw_FU h9 x0 x2 (0 : Int32))
 else (some ((0 : Int32), h1))

noncomputable def g_X12_sample_b27 (h : jw_H) (x0 : Nat) (x1 : Int32) (x2 : Int32) (t0 : Int32) : Option (Int32 × jw_H) :=
 if t0 = 0 then (g_X12_sample_b53  h x0 x1 x2 x0 (1 : Int32))
 else ((jw_gI h 12 (some x0) 12).bind fun v2 =>
 if (v2 + x2) ≤ (40 : Int32) then (g_X12_sample_b53  h x0 x1 x2 x0 (0 : Int32))
 else (g_X12_sample_b53  h x0 x1 x2 x0 (2 : Int32)))

noncomputable def g_X12_sample_b26 (h : jw_H) (x0 : Nat) (x1 : Int32) (x2 : Int32) : Option (Int32 × jw_H) :=
 g_X12_sample_b27  h x0 x1 x2 (0 : Int32)

noncomputable def f_X12_sample (h : jw_H) (x0 : Nat) (x1 : Int32) (x2 : Int32) : Option (Int32 × jw_H) :=
 if x1 < 0 then (g_X12_sample_b26  h x0 x1 x2)
 else (if (65535 : Int32) < x1 then (g_X12_sample_b26  h x0 x1 x2)
 else (if x2 < (1 : Int32) then (g_X12_sample_b26  h x0 x1 x2)
 else (if (20 : Int32) < x2 then (g_X12_sample_b26  h x0 x1 x2)
 else (g_X12_sample_b27  h x0 x1 x2 (1 : Int32)))))

set_option maxRecDepth 100000 in
set_option maxHeartbeats 4000000 in
theorem l_X12_sample_b141 {hi : jw_H} {k109 : jw_H → Nat → Int32 → Int32 → Int32 → Int32 → Option (Int32 × jw_H)} (hk109 : ∀ (h : jw_H) (x0 : Nat) (x2 : Int32) (x4 : Int32) (x5 : Int32) (x6 : Int32) (r : Int32) (h' : jw_H), k109 h x0 x2 x4 x5 x6 = some (r, h') → jw_E 3 uX12_sample hi 109 [some (.ref x0), none, some (.int x2), none, some (.int x4), some (.int x5), some (.int x6), none] [] h (.inl (some (.int r))) h') {h : jw_H} {x0 : Nat} {x2 : Int32} {x4 : Int32} {x5 : Int32} {x6 : Int32} {t0 : Nat} {t1 : Int32} {r : Int32} {h' : jw_H} (hq : g_X12_sample_b141 k109 h x0 x2 x4 x5 x6 t0 t1 = some (r, h')) : jw_E 3 uX12_sample hi 141 [some (.ref x0), none, some (.int x2), none, some (.int x4), some (.int x5), some (.int x6), none] [.int t1, .ref t0] h (.inl (some (.int r))) h' := by
  unfold g_X12_sample_b141 at hq
  obtain ⟨a1, ea1, hq⟩ := Option.bind_eq_some_iff.mp hq
  obtain ⟨eoa1, eta1⟩ := jw_rc_spec ea1
  obtain ⟨w3, h2, ew3, hq⟩ := jw_b2_spec hq
  refine jw_callV (As := [.int t1]) (S := []) (a := a1) (v := none) dX12_sample_141 mt_X12_makes in_X12_makes se_X12_makes lk_X12_120 (c_X12_makes ew3) eta1 (by decide) rfl rfl (by decide) (Nat.le_of_ble_eq_true rfl) (by cases eoa1; rfl) ?_
  refine jw_iinc (L' := [some (.ref x0), none, some (.int x2), none, some (.int x4), some (.int x5), some (.int (x6 + (1 : Int32))), none]) dX12_sample_144 rfl (v := (1 : Int32)) (by decide) (Nat.le_of_ble_eq_true rfl) rfl ?_
  refine jw_goto (tgt := 109) dX12_sample_147 (by decide) ?_
  exact hk109 _ _ _ _ _ _ _ _ hq

set_option maxRecDepth 100000 in
set_option maxHeartbeats 4000000 in
theorem l_X12_sample_b109g {hi : jw_H} {k87 : jw_H → Nat → Int32 → Int32 → Option (Int32 × jw_H)} (hk87 : ∀ (h : jw_H) (x0 : Nat) (x2 : Int32) (x4 : Int32) (r : Int32) (h' : jw_H), k87 h x0 x2 x4 = some (r, h') → jw_E 3 uX12_sample hi 87 [some (.ref x0), none, some (.int x2), none, some (.int x4), none, none, none] [] h (.inl (some (.int r))) h') {k109 : jw_H → Nat → Int32 → Int32 → Int32 → Int32 → Option (Int32 × jw_H)} (hk109 : ∀ (h : jw_H) (x0 : Nat) (x2 : Int32) (x4 : Int32) (x5 : Int32) (x6 : Int32) (r : Int32) (h' : jw_H), k109 h x0 x2 x4 x5 x6 = some (r, h') → jw_E 3 uX12_sample hi 109 [some (.ref x0), none, some (.int x2), none, some (.int x4), some (.int x5), some (.int x6), none] [] h (.inl (some (.int r))) h') {h : jw_H} {x0 : Nat} {x2 : Int32} {x4 : Int32} {x5 : Int32} {x6 : Int32} {r : Int32} {h' : jw_H} (hq : g_X12_sample_b109 k87 k109 h x0 x2 x4 x5 x6 = some (r, h')) : jw_E 3 uX12_sample hi 109 [some (.ref x0), none, some (.int x2), none, some (.int x4), some (.int x5), some (.int x6), none] [] h (.inl (some (.int r))) h' := by
  unfold g_X12_sample_b109 at hq
  refine jw_iload dX12_sample_109 rfl ?_
  refine jw_iload dX12_sample_111 rfl ?_
  rcases jw_if hq with ⟨c1, hq⟩ | ⟨c1, hq⟩
  · refine jw_icmp_ge_t (tgt := 150) dX12_sample_113 (by decide) c1 ?_
    refine jw_aload_n dX12_sample_150 (o := (some x0)) rfl ?_
    refine jw_sipush dX12_sample_151 (v := (429 : Int32)) (by decide) ?_
    obtain ⟨a2, ea2, hq⟩ := Option.bind_eq_some_iff.mp hq
    obtain ⟨eoa2, eta2⟩ := jw_rc_spec ea2
    obtain ⟨w4, h3, ew4, hq⟩ := jw_b2_spec hq
    refine jw_callV (As := [.int (429 : Int32)]) (S := []) (a := a2) (v := some (.int w4)) dX12_sample_154 mt_X12_lays in_X12_lays se_X12_lays lk_X12_329 (c_X12_lays ew4) eta2 (by decide) rfl rfl (by decide) (Nat.le_of_ble_eq_true rfl) (by cases eoa2; rfl) ?_
    refine jw_pop dX12_sample_157 rfl ?_
    refine jw_aload_n dX12_sample_158 (o := (some x0)) rfl ?_
    refine jw_sipush dX12_sample_159 (v := (429 : Int32)) (by decide) ?_
    refine jw_aload_n dX12_sample_162 (o := (some x0)) rfl ?_
    obtain ⟨v5, ev5, hq⟩ := Option.bind_eq_some_iff.mp hq
    refine jw_getI (o := (some x0)) dX12_sample_163 ev5 fl_X12_124 rfl ?_
    obtain ⟨a6, ea6, hq⟩ := Option.bind_eq_some_iff.mp hq
    obtain ⟨eoa6, eta6⟩ := jw_rc_spec ea6
    obtain ⟨w8, h7, ew8, hq⟩ := jw_b2_spec hq
    refine jw_callV (As := [.int (429 : Int32), .int v5]) (S := []) (a := a6) (v := none) dX12_sample_166 mt_X12_bring in_X12_bring se_X12_bring lk_X12_332 (c_X12_bring ew8) eta6 (by decide) rfl rfl (by decide) (Nat.le_of_ble_eq_true rfl) (by cases eoa6; rfl) ?_
    refine jw_iinc (L' := [some (.ref x0), none, some (.int x2), none, some (.int (x4 + (1 : Int32))), some (.int x5), some (.int x6), none]) dX12_sample_169 rfl (v := (1 : Int32)) (by decide) (Nat.le_of_ble_eq_true rfl) rfl ?_
    refine jw_goto (tgt := 87) dX12_sample_172 (by decide) ?_
    refine jw_forget [true, true, true, true, true, false, false, true] (L' := [some (.ref x0), none, some (.int x2), none, some (.int (x4 + (1 : Int32))), none, none, none]) rfl ?_
    exact hk87 _ _ _ _ _ _ hq
  · refine jw_icmp_ge_f (tgt := 150) dX12_sample_113 (by decide) c1 ?_
    refine jw_aload_n dX12_sample_116 (o := (some x0)) rfl ?_
    refine jw_bipush dX12_sample_117 (v := (6 : Int32)) (by decide) ?_
    obtain ⟨a9, ea9, hq⟩ := Option.bind_eq_some_iff.mp hq
    obtain ⟨eoa9, eta9⟩ := jw_rc_spec ea9
    obtain ⟨w11, h10, ew11, hq⟩ := jw_b2_spec hq
    refine jw_callV (As := [.int (6 : Int32)]) (S := []) (a := a9) (v := some (.int w11)) dX12_sample_119 mt_X12_lot in_X12_lot se_X12_lot lk_X12_715 (c_X12_lot ew11) eta9 (by decide) rfl rfl (by decide) (Nat.le_of_ble_eq_true rfl) (by cases eoa9; rfl) ?_
    refine jw_istore (L' := [some (.ref x0), none, some (.int x2), none, some (.int x4), some (.int x5), some (.int x6), some (.int w11)]) dX12_sample_122 (Nat.le_of_ble_eq_true rfl) rfl ?_
    refine jw_aload_n dX12_sample_124 (o := (some x0)) rfl ?_
    refine jw_iload dX12_sample_125 rfl ?_
    refine jw_iconst dX12_sample_127 (v := (5 : Int32)) (by decide) ?_
    rcases jw_if hq with ⟨c12, hq⟩ | ⟨c12, hq⟩
    · refine jw_icmp_ne_f (tgt := 136) dX12_sample_128 (by decide) c12 ?_
      refine jw_bipush dX12_sample_131 (v := (32 : Int32)) (by decide) ?_
      refine jw_goto (tgt := 141) dX12_sample_133 (by decide) ?_
      refine jw_forget [true, true, true, true, true, true, true, false] (L' := [some (.ref x0), none, some (.int x2), none, some (.int x4), some (.int x5), some (.int x6), none]) rfl ?_
      exact l_X12_sample_b141 hk109 hq
    · refine jw_icmp_ne_t (tgt := 136) dX12_sample_128 (by decide) c12 ?_
      refine jw_bipush dX12_sample_136 (v := (97 : Int32)) (by decide) ?_
      refine jw_iload dX12_sample_138 rfl ?_
      refine jw_iadd dX12_sample_140 ?_
      refine jw_forget [true, true, true, true, true, true, true, false] (L' := [some (.ref x0), none, some (.int x2), none, some (.int x4), some (.int x5), some (.int x6), none]) rfl ?_
      exact l_X12_sample_b141 hk109 hq

theorem l_X12_sample_b109 {hi : jw_H} {k87 : jw_H → Nat → Int32 → Int32 → Option (Int32 × jw_H)} (hk87 : ∀ (h : jw_H) (x0 : Nat) (x2 : Int32) (x4 : Int32) (r : Int32) (h' : jw_H), k87 h x0 x2 x4 = some (r, h') → jw_E 3 uX12_sample hi 87 [some (.ref x0), none, some (.int x2), none, some (.int x4), none, none, none] [] h (.inl (some (.int r))) h') : ∀ (n : Nat) (h : jw_H) (x0 : Nat) (x2 : Int32) (x4 : Int32) (x5 : Int32) (x6 : Int32) (r : Int32) (h' : jw_H), f_X12_sample_b109 k87 n h x0 x2 x4 x5 x6 = some (r, h') → jw_E 3 uX12_sample hi 109 [some (.ref x0), none, some (.int x2), none, some (.int x4), some (.int x5), some (.int x6), none] [] h (.inl (some (.int r))) h' := by
  intro n
  induction n with
  | zero => intro h x0 x2 x4 x5 x6 r h' hq; exact nomatch hq
  | succ n ih => intro h x0 x2 x4 x5 x6 r h' hq; exact l_X12_sample_b109g hk87 ih hq

set_option maxRecDepth 100000 in
set_option maxHeartbeats 4000000 in
theorem l_X12_sample_b87g {hi : jw_H} {k87 : jw_H → Nat → Int32 → Int32 → Option (Int32 × jw_H)} (hk87 : ∀ (h : jw_H) (x0 : Nat) (x2 : Int32) (x4 : Int32) (r : Int32) (h' : jw_H), k87 h x0 x2 x4 = some (r, h') → jw_E 3 uX12_sample hi 87 [some (.ref x0), none, some (.int x2), none, some (.int x4), none, none, none] [] h (.inl (some (.int r))) h') {h : jw_H} {x0 : Nat} {x2 : Int32} {x4 : Int32} {r : Int32} {h' : jw_H} (hq : g_X12_sample_b87 k87 h x0 x2 x4 = some (r, h')) : jw_E 3 uX12_sample hi 87 [some (.ref x0), none, some (.int x2), none, some (.int x4), none, none, none] [] h (.inl (some (.int r))) h' := by
  unfold g_X12_sample_b87 at hq
  refine jw_iload dX12_sample_87 rfl ?_
  refine jw_iload_n dX12_sample_89 rfl ?_
  rcases jw_if hq with ⟨c1, hq⟩ | ⟨c1, hq⟩
  · refine jw_icmp_ge_t (tgt := 175) dX12_sample_90 (by decide) c1 ?_
    refine jw_aload_n dX12_sample_175 (o := (some x0)) rfl ?_
    refine jw_aload_n dX12_sample_176 (o := (some x0)) rfl ?_
    obtain ⟨v2, ev2, hq⟩ := Option.bind_eq_some_iff.mp hq
    refine jw_getI (o := (some x0)) dX12_sample_177 ev2 fl_X12_124 rfl ?_
    obtain ⟨h3, eh3, hq⟩ := Option.bind_eq_some_iff.mp hq
    refine jw_putI (o := (some x0)) dX12_sample_180 eh3 fl_X12_295 rfl rfl ?_
    refine jw_aload_n dX12_sample_183 (o := (some x0)) rfl ?_
    obtain ⟨a4, ea4, hq⟩ := Option.bind_eq_some_iff.mp hq
    obtain ⟨eoa4, eta4⟩ := jw_rc_spec ea4
    obtain ⟨w6, h5, ew6, hq⟩ := jw_b2_spec hq
    refine jw_callV (As := []) (S := []) (a := a4) (v := none) dX12_sample_184 mt_X12_noteDeed in_X12_noteDeed se_X12_noteDeed lk_X12_533 (c_X12_noteDeed ew6) eta4 (by decide) rfl rfl (by decide) (Nat.le_of_ble_eq_true rfl) (by cases eoa4; rfl) ?_
    refine jw_aload_n dX12_sample_187 (o := (some x0)) rfl ?_
    obtain ⟨v7, ev7, hq⟩ := Option.bind_eq_some_iff.mp hq
    refine jw_getI (o := (some x0)) dX12_sample_188 ev7 fl_X12_124 rfl ?_
    cases hq
    exact jw_iret (ty := .int) dX12_sample_191 rfl rfl
  · refine jw_icmp_ge_f (tgt := 175) dX12_sample_90 (by decide) c1 ?_
    refine jw_aload_n dX12_sample_93 (o := (some x0)) rfl ?_
    refine jw_bipush dX12_sample_94 (v := (9 : Int32)) (by decide) ?_
    obtain ⟨a8, ea8, hq⟩ := Option.bind_eq_some_iff.mp hq
    obtain ⟨eoa8, eta8⟩ := jw_rc_spec ea8
    obtain ⟨w10, h9, ew10, hq⟩ := jw_b2_spec hq
    refine jw_callV (As := [.int (9 : Int32)]) (S := []) (a := a8) (v := some (.int w10)) dX12_sample_96 mt_X12_lot in_X12_lot se_X12_lot lk_X12_715 (c_X12_lot ew10) eta8 (by decide) rfl rfl (by decide) (Nat.le_of_ble_eq_true rfl) (by cases eoa8; rfl) ?_
    refine jw_istore (L' := [some (.ref x0), none, some (.int x2), none, some (.int x4), some (.int w10), none, none]) dX12_sample_99 (Nat.le_of_ble_eq_true rfl) rfl ?_
    refine jw_aload_n dX12_sample_101 (o := (some x0)) rfl ?_
    refine jw_iconst dX12_sample_102 (v := (0 : Int32)) (by decide) ?_
    obtain ⟨h11, eh11, hq⟩ := Option.bind_eq_some_iff.mp hq
    refine jw_putI (o := (some x0)) dX12_sample_103 eh11 fl_X12_117 rfl rfl ?_
    refine jw_iconst dX12_sample_106 (v := (0 : Int32)) (by decide) ?_
    refine jw_istore (L' := [some (.ref x0), none, some (.int x2), none, some (.int x4), some (.int w10), some (.int (0 : Int32)), none]) dX12_sample_107 (Nat.le_of_ble_eq_true rfl) rfl ?_
    exact l_X12_sample_b109 hk87 jw_FU _ _ _ _ _ _ _ _ hq

theorem l_X12_sample_b87 {hi : jw_H} : ∀ (n : Nat) (h : jw_H) (x0 : Nat) (x2 : Int32) (x4 : Int32) (r : Int32) (h' : jw_H), f_X12_sample_b87  n h x0 x2 x4 = some (r, h') → jw_E 3 uX12_sample hi 87 [some (.ref x0), none, some (.int x2), none, some (.int x4), none, none, none] [] h (.inl (some (.int r))) h' := by
  intro n
  induction n with
  | zero => intro h x0 x2 x4 r h' hq; exact nomatch hq
  | succ n ih => intro h x0 x2 x4 r h' hq; exact l_X12_sample_b87g ih hq

set_option maxRecDepth 100000 in
set_option maxHeartbeats 4000000 in
theorem l_X12_sample_b53 {hi : jw_H} {h : jw_H} {x0 : Nat} {x1 : Int32} {x2 : Int32} {t0 : Nat} {t1 : Int32} {r : Int32} {h' : jw_H} (hq : g_X12_sample_b53  h x0 x1 x2 t0 t1 = some (r, h')) : jw_E 3 uX12_sample hi 53 [some (.ref x0), some (.int x1), some (.int x2), none, none, none, none, none] [.int t1, .ref t0] h (.inl (some (.int r))) h' := by
  unfold g_X12_sample_b53 at hq
  obtain ⟨h1, eh1, hq⟩ := Option.bind_eq_some_iff.mp hq
  refine jw_putI (o := (some t0)) dX12_sample_53 eh1 fl_X12_105 rfl rfl ?_
  refine jw_aload_n dX12_sample_56 (o := (some x0)) rfl ?_
  obtain ⟨v2, ev2, hq⟩ := Option.bind_eq_some_iff.mp hq
  refine jw_getI (o := (some x0)) dX12_sample_57 ev2 fl_X12_105 rfl ?_
  rcases jw_if hq with ⟨c3, hq⟩ | ⟨c3, hq⟩
  · refine jw_if_le_t (tgt := 65) dX12_sample_60 (by decide) c3 ?_
    refine jw_aload_n dX12_sample_65 (o := (some x0)) rfl ?_
    refine jw_dup dX12_sample_66 rfl ?_
    obtain ⟨v4, ev4, hq⟩ := Option.bind_eq_some_iff.mp hq
    refine jw_getI (o := (some x0)) dX12_sample_67 ev4 fl_X12_497 rfl ?_
    refine jw_iconst dX12_sample_70 (v := (1 : Int32)) (by decide) ?_
    refine jw_iadd dX12_sample_71 ?_
    obtain ⟨h5, eh5, hq⟩ := Option.bind_eq_some_iff.mp hq
    refine jw_putI (o := (some x0)) dX12_sample_72 eh5 fl_X12_497 rfl rfl ?_
    refine jw_aload_n dX12_sample_75 (o := (some x0)) rfl ?_
    obtain ⟨a6, ea6, hq⟩ := Option.bind_eq_some_iff.mp hq
    obtain ⟨eoa6, eta6⟩ := jw_rc_spec ea6
    obtain ⟨w8, h7, ew8, hq⟩ := jw_b2_spec hq
    refine jw_callV (As := []) (S := []) (a := a6) (v := none) dX12_sample_76 mt_X12_save in_X12_save se_X12_save lk_X12_521 (c_X12_save ew8) eta6 (by decide) rfl rfl (by decide) (Nat.le_of_ble_eq_true rfl) (by cases eoa6; rfl) ?_
    refine jw_aload_n dX12_sample_79 (o := (some x0)) rfl ?_
    refine jw_iload_n dX12_sample_80 rfl ?_
    obtain ⟨h9, eh9, hq⟩ := Option.bind_eq_some_iff.mp hq
    refine jw_putI (o := (some x0)) dX12_sample_81 eh9 fl_X12_710 rfl rfl ?_
    refine jw_iconst dX12_sample_84 (v := (0 : Int32)) (by decide) ?_
    refine jw_istore (L' := [some (.ref x0), some (.int x1), some (.int x2), none, some (.int (0 : Int32)), none, none, none]) dX12_sample_85 (Nat.le_of_ble_eq_true rfl) rfl ?_
    refine jw_forget [true, false, true, true, true, true, true, true] (L' := [some (.ref x0), none, some (.int x2), none, some (.int (0 : Int32)), none, none, none]) rfl ?_
    exact l_X12_sample_b87  jw_FU _ _ _ _ _ _ hq
  · refine jw_if_le_f (tgt := 65) dX12_sample_60 (by decide) c3 ?_
    refine jw_iconst dX12_sample_63 (v := (0 : Int32)) (by decide) ?_
    cases hq
    exact jw_iret (ty := .int) dX12_sample_64 rfl rfl

set_option maxRecDepth 100000 in
set_option maxHeartbeats 4000000 in
theorem l_X12_sample_b27 {hi : jw_H} {h : jw_H} {x0 : Nat} {x1 : Int32} {x2 : Int32} {t0 : Int32} {r : Int32} {h' : jw_H} (hq : g_X12_sample_b27  h x0 x1 x2 t0 = some (r, h')) : jw_E 3 uX12_sample hi 27 [some (.ref x0), some (.int x1), some (.int x2), none, none, none, none, none] [.int t0] h (.inl (some (.int r))) h' := by
  unfold g_X12_sample_b27 at hq
  refine jw_istore_n (L' := [some (.ref x0), some (.int x1), some (.int x2), some (.int t0), none, none, none, none]) dX12_sample_27 (Nat.le_of_ble_eq_true rfl) rfl ?_
  refine jw_aload_n dX12_sample_28 (o := (some x0)) rfl ?_
  refine jw_iload_n dX12_sample_29 rfl ?_
  rcases jw_if hq with ⟨c1, hq⟩ | ⟨c1, hq⟩
  · refine jw_if_ne_f (tgt := 37) dX12_sample_30 (by decide) c1 ?_
    refine jw_iconst dX12_sample_33 (v := (1 : Int32)) (by decide) ?_
    refine jw_goto (tgt := 53) dX12_sample_34 (by decide) ?_
    refine jw_forget [true, true, true, false, true, true, true, true] (L' := [some (.ref x0), some (.int x1), some (.int x2), none, none, none, none, none]) rfl ?_
    exact l_X12_sample_b53  hq
  · refine jw_if_ne_t (tgt := 37) dX12_sample_30 (by decide) c1 ?_
    refine jw_aload_n dX12_sample_37 (o := (some x0)) rfl ?_
    obtain ⟨v2, ev2, hq⟩ := Option.bind_eq_some_iff.mp hq
    refine jw_getI (o := (some x0)) dX12_sample_38 ev2 fl_X12_124 rfl ?_
    refine jw_iload_n dX12_sample_41 rfl ?_
    refine jw_iadd dX12_sample_42 ?_
    refine jw_bipush dX12_sample_43 (v := (40 : Int32)) (by decide) ?_
    rcases jw_if hq with ⟨c3, hq⟩ | ⟨c3, hq⟩
    · refine jw_icmp_le_t (tgt := 52) dX12_sample_45 (by decide) c3 ?_
      refine jw_iconst dX12_sample_52 (v := (0 : Int32)) (by decide) ?_
      refine jw_forget [true, true, true, false, true, true, true, true] (L' := [some (.ref x0), some (.int x1), some (.int x2), none, none, none, none, none]) rfl ?_
      exact l_X12_sample_b53  hq
    · refine jw_icmp_le_f (tgt := 52) dX12_sample_45 (by decide) c3 ?_
      refine jw_iconst dX12_sample_48 (v := (2 : Int32)) (by decide) ?_
      refine jw_goto (tgt := 53) dX12_sample_49 (by decide) ?_
      refine jw_forget [true, true, true, false, true, true, true, true] (L' := [some (.ref x0), some (.int x1), some (.int x2), none, none, none, none, none]) rfl ?_
      exact l_X12_sample_b53  hq

set_option maxRecDepth 100000 in
set_option maxHeartbeats 4000000 in
theorem l_X12_sample_b26 {hi : jw_H} {h : jw_H} {x0 : Nat} {x1 : Int32} {x2 : Int32} {r : Int32} {h' : jw_H} (hq : g_X12_sample_b26  h x0 x1 x2 = some (r, h')) : jw_E 3 uX12_sample hi 26 [some (.ref x0), some (.int x1), some (.int x2), none, none, none, none, none] [] h (.inl (some (.int r))) h' := by
  unfold g_X12_sample_b26 at hq
  refine jw_iconst dX12_sample_26 (v := (0 : Int32)) (by decide) ?_
  exact l_X12_sample_b27  hq

set_option maxRecDepth 100000 in
set_option maxHeartbeats 4000000 in
theorem l_X12_sample {hi : jw_H} {h : jw_H} {x0 : Nat} {x1 : Int32} {x2 : Int32} {r : Int32} {h' : jw_H} (hq : f_X12_sample  h x0 x1 x2 = some (r, h')) : jw_E 3 uX12_sample hi 0 [some (.ref x0), some (.int x1), some (.int x2), none, none, none, none, none] [] h (.inl (some (.int r))) h' := by
  unfold f_X12_sample at hq
  refine jw_iload_n dX12_sample_0 rfl ?_
  rcases jw_if hq with ⟨c1, hq⟩ | ⟨c1, hq⟩
  · refine jw_if_lt_t (tgt := 26) dX12_sample_1 (by decide) c1 ?_
    exact l_X12_sample_b26  hq
  · refine jw_if_lt_f (tgt := 26) dX12_sample_1 (by decide) c1 ?_
    refine jw_iload_n dX12_sample_4 rfl ?_
    refine jw_ldcw dX12_sample_5 cw_X12_714 ?_
    rcases jw_if hq with ⟨c2, hq⟩ | ⟨c2, hq⟩
    · refine jw_icmp_gt_t (tgt := 26) dX12_sample_8 (by decide) c2 ?_
      exact l_X12_sample_b26  hq
    · refine jw_icmp_gt_f (tgt := 26) dX12_sample_8 (by decide) c2 ?_
      refine jw_iload_n dX12_sample_11 rfl ?_
      refine jw_iconst dX12_sample_12 (v := (1 : Int32)) (by decide) ?_
      rcases jw_if hq with ⟨c3, hq⟩ | ⟨c3, hq⟩
      · refine jw_icmp_lt_t (tgt := 26) dX12_sample_13 (by decide) c3 ?_
        exact l_X12_sample_b26  hq
      · refine jw_icmp_lt_f (tgt := 26) dX12_sample_13 (by decide) c3 ?_
        refine jw_iload_n dX12_sample_16 rfl ?_
        refine jw_bipush dX12_sample_17 (v := (20 : Int32)) (by decide) ?_
        rcases jw_if hq with ⟨c4, hq⟩ | ⟨c4, hq⟩
        · refine jw_icmp_gt_t (tgt := 26) dX12_sample_19 (by decide) c4 ?_
          exact l_X12_sample_b26  hq
        · refine jw_icmp_gt_f (tgt := 26) dX12_sample_19 (by decide) c4 ?_
          refine jw_iconst dX12_sample_22 (v := (1 : Int32)) (by decide) ?_
          refine jw_goto (tgt := 27) dX12_sample_23 (by decide) ?_
          exact l_X12_sample_b27  hq

theorem c_X12_sample {h : jw_H} {x0 : Nat} {x1 : Int32} {x2 : Int32} {r : Int32} {h' : jw_H} (hq : f_X12_sample h x0 x1 x2 = some (r, h')) : jw_Con (Cond.code yX12_sample cX12_sample 8 (some .int)) yX12_sample 3 [.ref x0, .int x1, .int x2] h (.inl (some (.int r))) h' :=
  jw_con false (plainFor_of_name (by decide +kernel)) (fun z => nomatch z) (by simp [jw_ent, jw_sl0_nil, jw_sl0_int, jw_sl0_long, jw_sl0_ref, jw_sl0_rf, jw_sl0_scr, List.replicate]) (by simp [jw_sl0_nil, jw_sl0_int, jw_sl0_long, jw_sl0_ref, jw_sl0_rf, jw_sl0_scr]) (l_X12_sample hq)

