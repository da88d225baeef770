/-! X12_comeBack -/
noncomputable def g_X12_comeBack_b84 (k84 : jw_H → Nat → Int32 → Option (Unit × jw_H)) (h : jw_H) (x0 : Nat) (x1 : Int32) : Option (Unit × jw_H) :=
 if (4 : Int32) ≤ x1 then ((jw_gI h 12 (some x0) 50).bind fun v2 =>
 (jw_pI h 12 (some x0) 12 v2).bind fun h3 =>
 (jw_gI h3 12 (some x0) 51).bind fun v4 =>
 (jw_pI h3 12 (some x0) 14 v4).bind fun h5 =>
 (jw_gI h5 12 (some x0) 52).bind fun v6 =>
 (jw_pI h5 12 (some x0) 15 v6).bind fun h7 =>
 (jw_gI h7 12 (some x0) 53).bind fun v8 =>
 (jw_pI h7 12 (some x0) 16 v8).bind fun h9 =>
 (jw_gI h9 12 (some x0) 54).bind fun v10 =>
 (jw_pI h9 12 (some x0) 17 v10).bind fun h11 =>
 some ((), h11))
 else ((jw_gR h 12 (some x0) 11).bind fun v12 =>
 (jw_gR h 12 (some x0) 49).bind fun v13 =>
 (jw_ai h 20 v13 x1).bind fun v14 =>
 (jw_si h 20 v12 x1 v14).bind fun h15 =>
 k84 h15 x0 (x1 + (1 : Int32)))

noncomputable def f_X12_comeBack_b84 (n : Nat) : jw_H → Nat → Int32 → Option (Unit × jw_H) :=
 Nat.rec (fun _ _ _ => none) (fun _ k84 => g_X12_comeBack_b84 k84) n

noncomputable def g_X12_comeBack_b59 (k59 : jw_H → Nat → Int32 → Option (Unit × jw_H)) (h : jw_H) (x0 : Nat) (x1 : Int32) : Option (Unit × jw_H) :=
 if (5 : Int32) ≤ x1 then (f_X12_comeBack_b84  jw_FU h x0 (0 : Int32))
 else ((jw_gR h 12 (some x0) 10).bind fun v2 =>
 (jw_gR h 12 (some x0) 48).bind fun v3 =>
 (jw_ai h 20 v3 x1).bind fun v4 =>
 (jw_si h 20 v2 x1 v4).bind fun h5 =>
 k59 h5 x0 (x1 + (1 : Int32)))

noncomputable def f_X12_comeBack_b59 (n : Nat) : jw_H → Nat → Int32 → Option (Unit × jw_H) :=
 Nat.rec (fun _ _ _ => none) (fun _ k59 => g_X12_comeBack_b59 k59) n

noncomputable def g_X12_comeBack_b33 (k33 : jw_H → Nat → Int32 → Option (Unit × jw_H)) (h : jw_H) (x0 : Nat) (x1 : Int32) : Option (Unit × jw_H) :=
 if (41 : Int32) ≤ x1 then (f_X12_comeBack_b59  jw_FU h x0 (0 : Int32))
 else ((jw_gR h 12 (some x0) 7).bind fun v2 =>
 (jw_gR h 12 (some x0) 47).bind fun v3 =>
 (jw_ai h 20 v3 x1).bind fun v4 =>
 (jw_si h 20 v2 x1 v4).bind fun h5 =>
 k33 h5 x0 (x1 + (1 : Int32)))

noncomputable def f_X12_comeBack_b33 (n : Nat) : jw_H → Nat → Int32 → Option (Unit × jw_H) :=
 Nat.rec (fun _ _ _ => none) (fun _ k33 => g_X12_comeBack_b33 k33) n

noncomputable def g_X12_comeBack_b2 (k2 : jw_H → Nat → Int32 → Option (Unit × jw_H)) (h : jw_H) (x0 : Nat) (x1 : Int32) : Option (Unit × jw_H) :=
 if (12028 : Int32) ≤ x1 then (f_X12_comeBack_b33  jw_FU h x0 (0 : Int32))
 else ((jw_gR h 12 (some x0) 6).bind fun v2 =>
 (jw_gR h 12 (some x0) 6).bind fun v3 =>
 (jw_ai h 20 v3 ((14880 : Int32) + x1)).bind fun v4 =>
 (jw_si h 20 v2 x1 v4).bind fun h5 =>
 k2 h5 x0 (x1 + (1 : Int32)))

noncomputable def f_X12_comeBack_b2 (n : Nat) : jw_H → Nat → Int32 → Option (Unit × jw_H) :=
 Nat.rec (fun _ _ _ => none) (fun _ k2 => g_X12_comeBack_b2 k2) n

noncomputable def f_X12_comeBack (h : jw_H) (x0 : Nat) : Option (Unit × jw_H) :=
 f_X12_comeBack_b2  jw_FU h x0 (0 : Int32)

set_option maxRecDepth 100000 in
set_option maxHeartbeats 4000000 in
theorem l_X12_comeBack_b84g {hi : jw_H} {k84 : jw_H → Nat → Int32 → Option (Unit × jw_H)} (hk84 : ∀ (h : jw_H) (x0 : Nat) (x1 : Int32) (r : Unit) (h' : jw_H), k84 h x0 x1 = some (r, h') → jw_E 0 uX12_comeBack hi 84 [some (.ref x0), some (.int x1)] [] h (.inl none) h') {h : jw_H} {x0 : Nat} {x1 : Int32} {r : Unit} {h' : jw_H} (hq : g_X12_comeBack_b84 k84 h x0 x1 = some (r, h')) : jw_E 0 uX12_comeBack hi 84 [some (.ref x0), some (.int x1)] [] h (.inl none) h' := by
  unfold g_X12_comeBack_b84 at hq
  refine jw_iload_n dX12_comeBack_84 rfl ?_
  refine jw_iconst dX12_comeBack_85 (v := (4 : Int32)) (by decide) ?_
  rcases jw_if hq with ⟨c1, hq⟩ | ⟨c1, hq⟩
  · refine jw_icmp_ge_t (tgt := 107) dX12_comeBack_86 (by decide) c1 ?_
    refine jw_aload_n dX12_comeBack_107 (o := (some x0)) rfl ?_
    refine jw_aload_n dX12_comeBack_108 (o := (some x0)) rfl ?_
    obtain ⟨v2, ev2, hq⟩ := Option.bind_eq_some_iff.mp hq
    refine jw_getI (o := (some x0)) dX12_comeBack_109 ev2 fl_X12_476 rfl ?_
    obtain ⟨h3, eh3, hq⟩ := Option.bind_eq_some_iff.mp hq
    refine jw_putI (o := (some x0)) dX12_comeBack_112 eh3 fl_X12_124 rfl rfl ?_
    refine jw_aload_n dX12_comeBack_115 (o := (some x0)) rfl ?_
    refine jw_aload_n dX12_comeBack_116 (o := (some x0)) rfl ?_
    obtain ⟨v4, ev4, hq⟩ := Option.bind_eq_some_iff.mp hq
    refine jw_getI (o := (some x0)) dX12_comeBack_117 ev4 fl_X12_479 rfl ?_
    obtain ⟨h5, eh5, hq⟩ := Option.bind_eq_some_iff.mp hq
    refine jw_putI (o := (some x0)) dX12_comeBack_120 eh5 fl_X12_366 rfl rfl ?_
    refine jw_aload_n dX12_comeBack_123 (o := (some x0)) rfl ?_
    refine jw_aload_n dX12_comeBack_124 (o := (some x0)) rfl ?_
    obtain ⟨v6, ev6, hq⟩ := Option.bind_eq_some_iff.mp hq
    refine jw_getI (o := (some x0)) dX12_comeBack_125 ev6 fl_X12_482 rfl ?_
    obtain ⟨h7, eh7, hq⟩ := Option.bind_eq_some_iff.mp hq
    refine jw_putI (o := (some x0)) dX12_comeBack_128 eh7 fl_X12_357 rfl rfl ?_
    refine jw_aload_n dX12_comeBack_131 (o := (some x0)) rfl ?_
    refine jw_aload_n dX12_comeBack_132 (o := (some x0)) rfl ?_
    obtain ⟨v8, ev8, hq⟩ := Option.bind_eq_some_iff.mp hq
    refine jw_getI (o := (some x0)) dX12_comeBack_133 ev8 fl_X12_485 rfl ?_
    obtain ⟨h9, eh9, hq⟩ := Option.bind_eq_some_iff.mp hq
    refine jw_putI (o := (some x0)) dX12_comeBack_136 eh9 fl_X12_295 rfl rfl ?_
    refine jw_aload_n dX12_comeBack_139 (o := (some x0)) rfl ?_
    refine jw_aload_n dX12_comeBack_140 (o := (some x0)) rfl ?_
    obtain ⟨v10, ev10, hq⟩ := Option.bind_eq_some_iff.mp hq
    refine jw_getI (o := (some x0)) dX12_comeBack_141 ev10 fl_X12_488 rfl ?_
    obtain ⟨h11, eh11, hq⟩ := Option.bind_eq_some_iff.mp hq
    refine jw_putI (o := (some x0)) dX12_comeBack_144 eh11 fl_X12_134 rfl rfl ?_
    cases hq
    exact jw_vret dX12_comeBack_147 rfl
  · refine jw_icmp_ge_f (tgt := 107) dX12_comeBack_86 (by decide) c1 ?_
    refine jw_aload_n dX12_comeBack_89 (o := (some x0)) rfl ?_
    obtain ⟨v12, ev12, hq⟩ := Option.bind_eq_some_iff.mp hq
    refine jw_getR (o := (some x0)) dX12_comeBack_90 ev12 fl_X12_38 rfl ?_
    refine jw_iload_n dX12_comeBack_93 rfl ?_
    refine jw_aload_n dX12_comeBack_94 (o := (some x0)) rfl ?_
    obtain ⟨v13, ev13, hq⟩ := Option.bind_eq_some_iff.mp hq
    refine jw_getR (o := (some x0)) dX12_comeBack_95 ev13 fl_X12_68 rfl ?_
    refine jw_iload_n dX12_comeBack_98 rfl ?_
    obtain ⟨v14, ev14, hq⟩ := Option.bind_eq_some_iff.mp hq
    refine jw_iald (o := v13) dX12_comeBack_99 ev14 ?_
    obtain ⟨h15, eh15, hq⟩ := Option.bind_eq_some_iff.mp hq
    refine jw_iast (o := v12) dX12_comeBack_100 eh15 ?_
    refine jw_iinc (L' := [some (.ref x0), some (.int (x1 + (1 : Int32)))]) dX12_comeBack_101 rfl (v := (1 : Int32)) (by decide) (Nat.le_of_ble_eq_true rfl) rfl ?_
    refine jw_goto (tgt := 84) dX12_comeBack_104 (by decide) ?_
    exact hk84 _ _ _ _ _ hq

theorem l_X12_comeBack_b84 {hi : jw_H} : ∀ (n : Nat) (h : jw_H) (x0 : Nat) (x1 : Int32) (r : Unit) (h' : jw_H), f_X12_comeBack_b84  n h x0 x1 = some (r, h') → jw_E 0 uX12_comeBack hi 84 [some (.ref x0), some (.int x1)] [] h (.inl none) h' := by
  intro n
  induction n with
  | zero => intro h x0 x1 r h' hq; exact nomatch hq
  | succ n ih => intro h x0 x1 r h' hq; exact l_X12_comeBack_b84g ih hq

set_option maxRecDepth 100000 in
set_option maxHeartbeats 4000000 in
theorem l_X12_comeBack_b59g {hi : jw_H} {k59 : jw_H → Nat → Int32 → Option (Unit × jw_H)} (hk59 : ∀ (h : jw_H) (x0 : Nat) (x1 : Int32) (r : Unit) (h' : jw_H), k59 h x0 x1 = some (r, h') → jw_E 0 uX12_comeBack hi 59 [some (.ref x0), some (.int x1)] [] h (.inl none) h') {h : jw_H} {x0 : Nat} {x1 : Int32} {r : Unit} {h' : jw_H} (hq : g_X12_comeBack_b59 k59 h x0 x1 = some (r, h')) : jw_E 0 uX12_comeBack hi 59 [some (.ref x0), some (.int x1)] [] h (.inl none) h' := by
  unfold g_X12_comeBack_b59 at hq
  refine jw_iload_n dX12_comeBack_59 rfl ?_
  refine jw_iconst dX12_comeBack_60 (v := (5 : Int32)) (by decide) ?_
  rcases jw_if hq with ⟨c1, hq⟩ | ⟨c1, hq⟩
  · refine jw_icmp_ge_t (tgt := 82) dX12_comeBack_61 (by decide) c1 ?_
    refine jw_iconst dX12_comeBack_82 (v := (0 : Int32)) (by decide) ?_
    refine jw_istore_n (L' := [some (.ref x0), some (.int (0 : Int32))]) dX12_comeBack_83 (Nat.le_of_ble_eq_true rfl) rfl ?_
    exact l_X12_comeBack_b84  jw_FU _ _ _ _ _ hq
  · refine jw_icmp_ge_f (tgt := 82) dX12_comeBack_61 (by decide) c1 ?_
    refine jw_aload_n dX12_comeBack_64 (o := (some x0)) rfl ?_
    obtain ⟨v2, ev2, hq⟩ := Option.bind_eq_some_iff.mp hq
    refine jw_getR (o := (some x0)) dX12_comeBack_65 ev2 fl_X12_35 rfl ?_
    refine jw_iload_n dX12_comeBack_68 rfl ?_
    refine jw_aload_n dX12_comeBack_69 (o := (some x0)) rfl ?_
    obtain ⟨v3, ev3, hq⟩ := Option.bind_eq_some_iff.mp hq
    refine jw_getR (o := (some x0)) dX12_comeBack_70 ev3 fl_X12_65 rfl ?_
    refine jw_iload_n dX12_comeBack_73 rfl ?_
    obtain ⟨v4, ev4, hq⟩ := Option.bind_eq_some_iff.mp hq
    refine jw_iald (o := v3) dX12_comeBack_74 ev4 ?_
    obtain ⟨h5, eh5, hq⟩ := Option.bind_eq_some_iff.mp hq
    refine jw_iast (o := v2) dX12_comeBack_75 eh5 ?_
    refine jw_iinc (L' := [some (.ref x0), some (.int (x1 + (1 : Int32)))]) dX12_comeBack_76 rfl (v := (1 : Int32)) (by decide) (Nat.le_of_ble_eq_true rfl) rfl ?_
    refine jw_goto (tgt := 59) dX12_comeBack_79 (by decide) ?_
    exact hk59 _ _ _ _ _ hq

theorem l_X12_comeBack_b59 {hi : jw_H} : ∀ (n : Nat) (h : jw_H) (x0 : Nat) (x1 : Int32) (r : Unit) (h' : jw_H), f_X12_comeBack_b59  n h x0 x1 = some (r, h') → jw_E 0 uX12_comeBack hi 59 [some (.ref x0), some (.int x1)] [] h (.inl none) h' := by
  intro n
  induction n with
  | zero => intro h x0 x1 r h' hq; exact nomatch hq
  | succ n ih => intro h x0 x1 r h' hq; exact l_X12_comeBack_b59g ih hq

set_option maxRecDepth 100000 in
set_option maxHeartbeats 4000000 in
theorem l_X12_comeBack_b33g {hi : jw_H} {k33 : jw_H → Nat → Int32 → Option (Unit × jw_H)} (hk33 : ∀ (h : jw_H) (x0 : Nat) (x1 : Int32) (r : Unit) (h' : jw_H), k33 h x0 x1 = some (r, h') → jw_E 0 uX12_comeBack hi 33 [some (.ref x0), some (.int x1)] [] h (.inl none) h') {h : jw_H} {x0 : Nat} {x1 : Int32} {r : Unit} {h' : jw_H} (hq : g_X12_comeBack_b33 k33 h x0 x1 = some (r, h')) : jw_E 0 uX12_comeBack hi 33 [some (.ref x0), some (.int x1)] [] h (.inl none) h' := by
  unfold g_X12_comeBack_b33 at hq
  refine jw_iload_n dX12_comeBack_33 rfl ?_
  refine jw_bipush dX12_comeBack_34 (v := (41 : Int32)) (by decide) ?_
  rcases jw_if hq with ⟨c1, hq⟩ | ⟨c1, hq⟩
  · refine jw_icmp_ge_t (tgt := 57) dX12_comeBack_36 (by decide) c1 ?_
    refine jw_iconst dX12_comeBack_57 (v := (0 : Int32)) (by decide) ?_
    refine jw_istore_n (L' := [some (.ref x0), some (.int (0 : Int32))]) dX12_comeBack_58 (Nat.le_of_ble_eq_true rfl) rfl ?_
    exact l_X12_comeBack_b59  jw_FU _ _ _ _ _ hq
  · refine jw_icmp_ge_f (tgt := 57) dX12_comeBack_36 (by decide) c1 ?_
    refine jw_aload_n dX12_comeBack_39 (o := (some x0)) rfl ?_
    obtain ⟨v2, ev2, hq⟩ := Option.bind_eq_some_iff.mp hq
    refine jw_getR (o := (some x0)) dX12_comeBack_40 ev2 fl_X12_26 rfl ?_
    refine jw_iload_n dX12_comeBack_43 rfl ?_
    refine jw_aload_n dX12_comeBack_44 (o := (some x0)) rfl ?_
    obtain ⟨v3, ev3, hq⟩ := Option.bind_eq_some_iff.mp hq
    refine jw_getR (o := (some x0)) dX12_comeBack_45 ev3 fl_X12_62 rfl ?_
    refine jw_iload_n dX12_comeBack_48 rfl ?_
    obtain ⟨v4, ev4, hq⟩ := Option.bind_eq_some_iff.mp hq
    refine jw_iald (o := v3) dX12_comeBack_49 ev4 ?_
    obtain ⟨h5, eh5, hq⟩ := Option.bind_eq_some_iff.mp hq
    refine jw_iast (o := v2) dX12_comeBack_50 eh5 ?_
    refine jw_iinc (L' := [some (.ref x0), some (.int (x1 + (1 : Int32)))]) dX12_comeBack_51 rfl (v := (1 : Int32)) (by decide) (Nat.le_of_ble_eq_true rfl) rfl ?_
    refine jw_goto (tgt := 33) dX12_comeBack_54 (by decide) ?_
    exact hk33 _ _ _ _ _ hq

theorem l_X12_comeBack_b33 {hi : jw_H} : ∀ (n : Nat) (h : jw_H) (x0 : Nat) (x1 : Int32) (r : Unit) (h' : jw_H), f_X12_comeBack_b33  n h x0 x1 = some (r, h') → jw_E 0 uX12_comeBack hi 33 [some (.ref x0), some (.int x1)] [] h (.inl none) h' := by
  intro n
  induction n with
  | zero => intro h x0 x1 r h' hq; exact nomatch hq
  | succ n ih => intro h x0 x1 r h' hq; exact l_X12_comeBack_b33g ih hq

set_option maxRecDepth 100000 in
set_option maxHeartbeats 4000000 in
theorem l_X12_comeBack_b2g {hi : jw_H} {k2 : jw_H → Nat → Int32 → Option (Unit × jw_H)} (hk2 : ∀ (h : jw_H) (x0 : Nat) (x1 : Int32) (r : Unit) (h' : jw_H), k2 h x0 x1 = some (r, h') → jw_E 0 uX12_comeBack hi 2 [some (.ref x0), some (.int x1)] [] h (.inl none) h') {h : jw_H} {x0 : Nat} {x1 : Int32} {r : Unit} {h' : jw_H} (hq : g_X12_comeBack_b2 k2 h x0 x1 = some (r, h')) : jw_E 0 uX12_comeBack hi 2 [some (.ref x0), some (.int x1)] [] h (.inl none) h' := by
  unfold g_X12_comeBack_b2 at hq
  refine jw_iload_n dX12_comeBack_2 rfl ?_
  refine jw_sipush dX12_comeBack_3 (v := (12028 : Int32)) (by decide) ?_
  rcases jw_if hq with ⟨c1, hq⟩ | ⟨c1, hq⟩
  · refine jw_icmp_ge_t (tgt := 31) dX12_comeBack_6 (by decide) c1 ?_
    refine jw_iconst dX12_comeBack_31 (v := (0 : Int32)) (by decide) ?_
    refine jw_istore_n (L' := [some (.ref x0), some (.int (0 : Int32))]) dX12_comeBack_32 (Nat.le_of_ble_eq_true rfl) rfl ?_
    exact l_X12_comeBack_b33  jw_FU _ _ _ _ _ hq
  · refine jw_icmp_ge_f (tgt := 31) dX12_comeBack_6 (by decide) c1 ?_
    refine jw_aload_n dX12_comeBack_9 (o := (some x0)) rfl ?_
    obtain ⟨v2, ev2, hq⟩ := Option.bind_eq_some_iff.mp hq
    refine jw_getR (o := (some x0)) dX12_comeBack_10 ev2 fl_X12_23 rfl ?_
    refine jw_iload_n dX12_comeBack_13 rfl ?_
    refine jw_aload_n dX12_comeBack_14 (o := (some x0)) rfl ?_
    obtain ⟨v3, ev3, hq⟩ := Option.bind_eq_some_iff.mp hq
    refine jw_getR (o := (some x0)) dX12_comeBack_15 ev3 fl_X12_23 rfl ?_
    refine jw_sipush dX12_comeBack_18 (v := (14880 : Int32)) (by decide) ?_
    refine jw_iload_n dX12_comeBack_21 rfl ?_
    refine jw_iadd dX12_comeBack_22 ?_
    obtain ⟨v4, ev4, hq⟩ := Option.bind_eq_some_iff.mp hq
    refine jw_iald (o := v3) dX12_comeBack_23 ev4 ?_
    obtain ⟨h5, eh5, hq⟩ := Option.bind_eq_some_iff.mp hq
    refine jw_iast (o := v2) dX12_comeBack_24 eh5 ?_
    refine jw_iinc (L' := [some (.ref x0), some (.int (x1 + (1 : Int32)))]) dX12_comeBack_25 rfl (v := (1 : Int32)) (by decide) (Nat.le_of_ble_eq_true rfl) rfl ?_
    refine jw_goto (tgt := 2) dX12_comeBack_28 (by decide) ?_
    exact hk2 _ _ _ _ _ hq

theorem l_X12_comeBack_b2 {hi : jw_H} : ∀ (n : Nat) (h : jw_H) (x0 : Nat) (x1 : Int32) (r : Unit) (h' : jw_H), f_X12_comeBack_b2  n h x0 x1 = some (r, h') → jw_E 0 uX12_comeBack hi 2 [some (.ref x0), some (.int x1)] [] h (.inl none) h' := by
  intro n
  induction n with
  | zero => intro h x0 x1 r h' hq; exact nomatch hq
  | succ n ih => intro h x0 x1 r h' hq; exact l_X12_comeBack_b2g ih hq

set_option maxRecDepth 100000 in
set_option maxHeartbeats 4000000 in
theorem l_X12_comeBack {hi : jw_H} {h : jw_H} {x0 : Nat} {r : Unit} {h' : jw_H} (hq : f_X12_comeBack  h x0 = some (r, h')) : jw_E 0 uX12_comeBack hi 0 [some (.ref x0), none] [] h (.inl none) h' := by
  unfold f_X12_comeBack at hq
  refine jw_iconst dX12_comeBack_0 (v := (0 : Int32)) (by decide) ?_
  refine jw_istore_n (L' := [some (.ref x0), some (.int (0 : Int32))]) dX12_comeBack_1 (Nat.le_of_ble_eq_true rfl) rfl ?_
  exact l_X12_comeBack_b2  jw_FU _ _ _ _ _ hq

theorem c_X12_comeBack {h : jw_H} {x0 : Nat} {r : Unit} {h' : jw_H} (hq : f_X12_comeBack h x0 = some (r, h')) : jw_Con (Cond.code yX12_comeBack cX12_comeBack 2 none) yX12_comeBack 0 [.ref x0] h (.inl none) h' :=
  jw_con false (plainFor_of_name (by decide +kernel)) (fun z => nomatch z) (by simp [jw_ent, jw_sl0_nil, jw_sl0_int, jw_sl0_long, jw_sl0_ref, jw_sl0_rf, jw_sl0_scr, List.replicate]) (by simp [jw_sl0_nil, jw_sl0_int, jw_sl0_long, jw_sl0_ref, jw_sl0_rf, jw_sl0_scr]) (l_X12_comeBack hq)


/-! X12_noteDeed -/
noncomputable def g_X12_noteDeed_b124 (k124 : jw_H → Nat → Int32 → Int32 → Option (Unit × jw_H)) (h : jw_H) (x0 : Nat) (x1 : Int32) (x2 : Int32) : Option (Unit × jw_H) :=
 if (5 : Int32) ≤ x2 then ((jw_gR h 12 (some x0) 58).bind fun v2 =>
 (jw_gI h 12 (some x0) 50).bind fun v3 =>
 (jw_si h 20 v2 x1 v3).bind fun h4 =>
 (jw_gR h4 12 (some x0) 59).bind fun v5 =>
 (jw_gI h4 12 (some x0) 53).bind fun v6 =>
 (jw_si h4 20 v5 x1 v6).bind fun h7 =>
 (jw_gR h7 12 (some x0) 60).bind fun v8 =>
 (jw_gI h7 12 (some x0) 63).bind fun v9 =>
 (jw_si h7 20 v8 x1 v9).bind fun h10 =>
 some ((), h10))
 else ((jw_gR h 12 (some x0) 57).bind fun v11 =>
 (jw_gR h 12 (some x0) 48).bind fun v12 =>
 (jw_ai h 20 v12 x2).bind fun v13 =>
 (jw_si h 20 v11 (((5 : Int32) * x1) + x2) v13).bind fun h14 =>
 k124 h14 x0 x1 (x2 + (1 : Int32)))

noncomputable def f_X12_noteDeed_b124 (n : Nat) : jw_H → Nat → Int32 → Int32 → Option (Unit × jw_H) :=
 Nat.rec (fun _ _ _ _ => none) (fun _ k124 => g_X12_noteDeed_b124 k124) n

noncomputable def g_X12_noteDeed_b91 (k91 : jw_H → Nat → Int32 → Int32 → Option (Unit × jw_H)) (h : jw_H) (x0 : Nat) (x1 : Int32) (x2 : Int32) : Option (Unit × jw_H) :=
 (jw_gI h 12 (some x0) 50).bind fun v1 =>
 if v1 ≤ x2 then (f_X12_noteDeed_b124  jw_FU h x0 x1 (0 : Int32))
 else ((jw_gR h 12 (some x0) 56).bind fun v3 =>
 (jw_gR h 12 (some x0) 47).bind fun v4 =>
 (jw_ai h 20 v4 x2).bind fun v5 =>
 (jw_si h 20 v3 (((40 : Int32) * x1) + x2) v5).bind fun h6 =>
 k91 h6 x0 x1 (x2 + (1 : Int32)))

noncomputable def f_X12_noteDeed_b91 (n : Nat) : jw_H → Nat → Int32 → Int32 → Option (Unit × jw_H) :=
 Nat.rec (fun _ _ _ _ => none) (fun _ k91 => g_X12_noteDeed_b91 k91) n

noncomputable def g_X12_noteDeed_b50 (k50 : jw_H → Nat → Int32 → Int32 → Option (Unit × jw_H)) (h : jw_H) (x0 : Nat) (x1 : Int32) (x2 : Int32) : Option (Unit × jw_H) :=
 (jw_gI h 12 (some x0) 50).bind fun v1 =>
 if ((31 : Int32) * v1) ≤ x2 then (f_X12_noteDeed_b91  jw_FU h x0 x1 (0 : Int32))
 else ((jw_gR h 12 (some x0) 55).bind fun v3 =>
 (jw_gR h 12 (some x0) 6).bind fun v4 =>
 (jw_ai h 20 v4 ((14880 : Int32) + x2)).bind fun v5 =>
 (jw_si h 20 v3 (((1240 : Int32) * x1) + x2) v5).bind fun h6 =>
 k50 h6 x0 x1 (x2 + (1 : Int32)))

noncomputable def f_X12_noteDeed_b50 (n : Nat) : jw_H → Nat → Int32 → Int32 → Option (Unit × jw_H) :=
 Nat.rec (fun _ _ _ _ => none) (fun _ k50 => g_X12_noteDeed_b50 k50) n

noncomputable def g_X12_noteDeed_b48 (h : jw_H) (x0 : Nat) (x1 : Int32) : Option (Unit × jw_H) :=
 f_X12_noteDeed_b50  jw_FU h x0 x1 (0 : Int32)

noncomputable def f_X12_noteDeed (h : jw_H) (x0 : Nat) : Option (Unit × jw_H) :=
 (jw_gI h 12 (some x0) 61).bind fun v1 =>
 (jw_gI h 12 (some x0) 62).bind fun v2 =>
 (jw_gI h 12 (some x0) 62).bind fun v3 =>
 if v3 = (40 : Int32) then ((jw_gI h 12 (some x0) 61).bind fun v7 =>
 (jw_pI h 12 (some x0) 61 ((v7 + (1 : Int32)) - (v7 + (1 : Int32)) / (40 : Int32) * (40 : Int32))).bind fun h8 =>
 g_X12_noteDeed_b48  h8 x0 ((v1 + v2) - (v1 + v2) / (40 : Int32) * (40 : Int32)))
 else ((jw_gI h 12 (some x0) 62).bind fun v5 =>
 (jw_pI h 12 (some x0) 62 (v5 + (1 : Int32))).bind fun h6 =>
 g_X12_noteDeed_b48  h6 x0 ((v1 + v2) - (v1 + v2) / (40 : Int32) * (40 : Int32)))

set_option maxRecDepth 100000 in
set_option maxHeartbeats 4000000 in
theorem l_X12_noteDeed_b124g {hi : jw_H} {k124 : jw_H → Nat → Int32 → Int32 → Option (Unit × jw_H)} (hk124 : ∀ (h : jw_H) (x0 : Nat) (x1 : Int32) (x2 : Int32) (r : Unit) (h' : jw_H), k124 h x0 x1 x2 = some (r, h') → jw_E 0 uX12_noteDeed hi 124 [some (.ref x0), some (.int x1), some (.int x2)] [] h (.inl none) h') {h : jw_H} {x0 : Nat} {x1 : Int32} {x2 : Int32} {r : Unit} {h' : jw_H} (hq : g_X12_noteDeed_b124 k124 h x0 x1 x2 = some (r, h')) : jw_E 0 uX12_noteDeed hi 124 [some (.ref x0), some (.int x1), some (.int x2)] [] h (.inl none) h' := by
  unfold g_X12_noteDeed_b124 at hq
  refine jw_iload_n dX12_noteDeed_124 rfl ?_
  refine jw_iconst dX12_noteDeed_125 (v := (5 : Int32)) (by decide) ?_
  rcases jw_if hq with ⟨c1, hq⟩ | ⟨c1, hq⟩
  · refine jw_icmp_ge_t (tgt := 151) dX12_noteDeed_126 (by decide) c1 ?_
    refine jw_aload_n dX12_noteDeed_151 (o := (some x0)) rfl ?_
    obtain ⟨v2, ev2, hq⟩ := Option.bind_eq_some_iff.mp hq
    refine jw_getR (o := (some x0)) dX12_noteDeed_152 ev2 fl_X12_81 rfl ?_
    refine jw_iload_n dX12_noteDeed_155 rfl ?_
    refine jw_aload_n dX12_noteDeed_156 (o := (some x0)) rfl ?_
    obtain ⟨v3, ev3, hq⟩ := Option.bind_eq_some_iff.mp hq
    refine jw_getI (o := (some x0)) dX12_noteDeed_157 ev3 fl_X12_476 rfl ?_
    obtain ⟨h4, eh4, hq⟩ := Option.bind_eq_some_iff.mp hq
    refine jw_iast (o := v2) dX12_noteDeed_160 eh4 ?_
    refine jw_aload_n dX12_noteDeed_161 (o := (some x0)) rfl ?_
    obtain ⟨v5, ev5, hq⟩ := Option.bind_eq_some_iff.mp hq
    refine jw_getR (o := (some x0)) dX12_noteDeed_162 ev5 fl_X12_84 rfl ?_
    refine jw_iload_n dX12_noteDeed_165 rfl ?_
    refine jw_aload_n dX12_noteDeed_166 (o := (some x0)) rfl ?_
    obtain ⟨v6, ev6, hq⟩ := Option.bind_eq_some_iff.mp hq
    refine jw_getI (o := (some x0)) dX12_noteDeed_167 ev6 fl_X12_485 rfl ?_
    obtain ⟨h7, eh7, hq⟩ := Option.bind_eq_some_iff.mp hq
    refine jw_iast (o := v5) dX12_noteDeed_170 eh7 ?_
    refine jw_aload_n dX12_noteDeed_171 (o := (some x0)) rfl ?_
    obtain ⟨v8, ev8, hq⟩ := Option.bind_eq_some_iff.mp hq
    refine jw_getR (o := (some x0)) dX12_noteDeed_172 ev8 fl_X12_87 rfl ?_
    refine jw_iload_n dX12_noteDeed_175 rfl ?_
    refine jw_aload_n dX12_noteDeed_176 (o := (some x0)) rfl ?_
    obtain ⟨v9, ev9, hq⟩ := Option.bind_eq_some_iff.mp hq
    refine jw_getI (o := (some x0)) dX12_noteDeed_177 ev9 fl_X12_497 rfl ?_
    obtain ⟨h10, eh10, hq⟩ := Option.bind_eq_some_iff.mp hq
    refine jw_iast (o := v8) dX12_noteDeed_180 eh10 ?_
    cases hq
    exact jw_vret dX12_noteDeed_181 rfl
  · refine jw_icmp_ge_f (tgt := 151) dX12_noteDeed_126 (by decide) c1 ?_
    refine jw_aload_n dX12_noteDeed_129 (o := (some x0)) rfl ?_
    obtain ⟨v11, ev11, hq⟩ := Option.bind_eq_some_iff.mp hq
    refine jw_getR (o := (some x0)) dX12_noteDeed_130 ev11 fl_X12_78 rfl ?_
    refine jw_iconst dX12_noteDeed_133 (v := (5 : Int32)) (by decide) ?_
    refine jw_iload_n dX12_noteDeed_134 rfl ?_
    refine jw_imul dX12_noteDeed_135 ?_
    refine jw_iload_n dX12_noteDeed_136 rfl ?_
    refine jw_iadd dX12_noteDeed_137 ?_
    refine jw_aload_n dX12_noteDeed_138 (o := (some x0)) rfl ?_
    obtain ⟨v12, ev12, hq⟩ := Option.bind_eq_some_iff.mp hq
    refine jw_getR (o := (some x0)) dX12_noteDeed_139 ev12 fl_X12_65 rfl ?_
    refine jw_iload_n dX12_noteDeed_142 rfl ?_
    obtain ⟨v13, ev13, hq⟩ := Option.bind_eq_some_iff.mp hq
    refine jw_iald (o := v12) dX12_noteDeed_143 ev13 ?_
    obtain ⟨h14, eh14, hq⟩ := Option.bind_eq_some_iff.mp hq
    refine jw_iast (o := v11) dX12_noteDeed_144 eh14 ?_
    refine jw_iinc (L' := [some (.ref x0), some (.int x1), some (.int (x2 + (1 : Int32)))]) dX12_noteDeed_145 rfl (v := (1 : Int32)) (by decide) (Nat.le_of_ble_eq_true rfl) rfl ?_
    refine jw_goto (tgt := 124) dX12_noteDeed_148 (by decide) ?_
    exact hk124 _ _ _ _ _ _ hq

theorem l_X12_noteDeed_b124 {hi : jw_H} : ∀ (n : Nat) (h : jw_H) (x0 : Nat) (x1 : Int32) (x2 : Int32) (r : Unit) (h' : jw_H), f_X12_noteDeed_b124  n h x0 x1 x2 = some (r, h') → jw_E 0 uX12_noteDeed hi 124 [some (.ref x0), some (.int x1), some (.int x2)] [] h (.inl none) h' := by
  intro n
  induction n with
  | zero => intro h x0 x1 x2 r h' hq; exact nomatch hq
  | succ n ih => intro h x0 x1 x2 r h' hq; exact l_X12_noteDeed_b124g ih hq

set_option maxRecDepth 100000 in
set_option maxHeartbeats 4000000 in
theorem l_X12_noteDeed_b91g {hi : jw_H} {k91 : jw_H → Nat → Int32 → Int32 → Option (Unit × jw_H)} (hk91 : ∀ (h : jw_H) (x0 : Nat) (x1 : Int32) (x2 : Int32) (r : Unit) (h' : jw_H), k91 h x0 x1 x2 = some (r, h') → jw_E 0 uX12_noteDeed hi 91 [some (.ref x0), some (.int x1), some (.int x2)] [] h (.inl none) h') {h : jw_H} {x0 : Nat} {x1 : Int32} {x2 : Int32} {r : Unit} {h' : jw_H} (hq : g_X12_noteDeed_b91 k91 h x0 x1 x2 = some (r, h')) : jw_E 0 uX12_noteDeed hi 91 [some (.ref x0), some (.int x1), some (.int x2)] [] h (.inl none) h' := by
  unfold g_X12_noteDeed_b91 at hq
  refine jw_iload_n dX12_noteDeed_91 rfl ?_
  refine jw_aload_n dX12_noteDeed_92 (o := (some x0)) rfl ?_
  obtain ⟨v1, ev1, hq⟩ := Option.bind_eq_some_iff.mp hq
  refine jw_getI (o := (some x0)) dX12_noteDeed_93 ev1 fl_X12_476 rfl ?_
  rcases jw_if hq with ⟨c2, hq⟩ | ⟨c2, hq⟩
  · refine jw_icmp_ge_t (tgt := 122) dX12_noteDeed_96 (by decide) c2 ?_
    refine jw_iconst dX12_noteDeed_122 (v := (0 : Int32)) (by decide) ?_
    refine jw_istore_n (L' := [some (.ref x0), some (.int x1), some (.int (0 : Int32))]) dX12_noteDeed_123 (Nat.le_of_ble_eq_true rfl) rfl ?_
    exact l_X12_noteDeed_b124  jw_FU _ _ _ _ _ _ hq
  · refine jw_icmp_ge_f (tgt := 122) dX12_noteDeed_96 (by decide) c2 ?_
    refine jw_aload_n dX12_noteDeed_99 (o := (some x0)) rfl ?_
    obtain ⟨v3, ev3, hq⟩ := Option.bind_eq_some_iff.mp hq
    refine jw_getR (o := (some x0)) dX12_noteDeed_100 ev3 fl_X12_75 rfl ?_
    refine jw_bipush dX12_noteDeed_103 (v := (40 : Int32)) (by decide) ?_
    refine jw_iload_n dX12_noteDeed_105 rfl ?_
    refine jw_imul dX12_noteDeed_106 ?_
    refine jw_iload_n dX12_noteDeed_107 rfl ?_
    refine jw_iadd dX12_noteDeed_108 ?_
    refine jw_aload_n dX12_noteDeed_109 (o := (some x0)) rfl ?_
    obtain ⟨v4, ev4, hq⟩ := Option.bind_eq_some_iff.mp hq
    refine jw_getR (o := (some x0)) dX12_noteDeed_110 ev4 fl_X12_62 rfl ?_
    refine jw_iload_n dX12_noteDeed_113 rfl ?_
    obtain ⟨v5, ev5, hq⟩ := Option.bind_eq_some_iff.mp hq
    refine jw_iald (o := v4) dX12_noteDeed_114 ev5 ?_
    obtain ⟨h6, eh6, hq⟩ := Option.bind_eq_some_iff.mp hq
    refine jw_iast (o := v3) dX12_noteDeed_115 eh6 ?_
    refine jw_iinc (L' := [some (.ref x0), some (.int x1), some (.int (x2 + (1 : Int32)))]) dX12_noteDeed_116 rfl (v := (1 : Int32)) (by decide) (Nat.le_of_ble_eq_true rfl) rfl ?_
    refine jw_goto (tgt := 91) dX12_noteDeed_119 (by decide) ?_
    exact hk91 _ _ _ _ _ _ hq

theorem l_X12_noteDeed_b91 {hi : jw_H} : ∀ (n : Nat) (h : jw_H) (x0 : Nat) (x1 : Int32) (x2 : Int32) (r : Unit) (h' : jw_H), f_X12_noteDeed_b91  n h x0 x1 x2 = some (r, h') → jw_E 0 uX12_noteDeed hi 91 [some (.ref x0), some (.int x1), some (.int x2)] [] h (.inl none) h' := by
  intro n
  induction n with
  | zero => intro h x0 x1 x2 r h' hq; exact nomatch hq
  | succ n ih => intro h x0 x1 x2 r h' hq; exact l_X12_noteDeed_b91g ih hq

set_option maxRecDepth 100000 in
set_option maxHeartbeats 4000000 in
theorem l_X12_noteDeed_b50g {hi : jw_H} {k50 : jw_H → Nat → Int32 → Int32 → Option (Unit × jw_H)} (hk50 : ∀ (h : jw_H) (x0 : Nat) (x1 : Int32) (x2 : Int32) (r : Unit) (h' : jw_H), k50 h x0 x1 x2 = some (r, h') → jw_E 0 uX12_noteDeed hi 50 [some (.ref x0), some (.int x1), some (.int x2)] [] h (.inl none) h') {h : jw_H} {x0 : Nat} {x1 : Int32} {x2 : Int32} {r : Unit} {h' : jw_H} (hq : g_X12_noteDeed_b50 k50 h x0 x1 x2 = some (r, h')) : jw_E 0 uX12_noteDeed hi 50 [some (.ref x0), some (.int x1), some (.int x2)] [] h (.inl none) h' := by
  unfold g_X12_noteDeed_b50 at hq
  refine jw_iload_n dX12_noteDeed_50 rfl ?_
  refine jw_bipush dX12_noteDeed_51 (v := (31 : Int32)) (by decide) ?_
  refine jw_aload_n dX12_noteDeed_53 (o := (some x0)) rfl ?_
  obtain ⟨v1, ev1, hq⟩ := Option.bind_eq_some_iff.mp hq
  refine jw_getI (o := (some x0)) dX12_noteDeed_54 ev1 fl_X12_476 rfl ?_
  refine jw_imul dX12_noteDeed_57 ?_
  rcases jw_if hq with ⟨c2, hq⟩ | ⟨c2, hq⟩
  · refine jw_icmp_ge_t (tgt := 89) dX12_noteDeed_58 (by decide) c2 ?_
    refine jw_iconst dX12_noteDeed_89 (v := (0 : Int32)) (by decide) ?_
    refine jw_istore_n (L' := [some (.ref x0), some (.int x1), some (.int (0 : Int32))]) dX12_noteDeed_90 (Nat.le_of_ble_eq_true rfl) rfl ?_
    exact l_X12_noteDeed_b91  jw_FU _ _ _ _ _ _ hq
  · refine jw_icmp_ge_f (tgt := 89) dX12_noteDeed_58 (by decide) c2 ?_
    refine jw_aload_n dX12_noteDeed_61 (o := (some x0)) rfl ?_
    obtain ⟨v3, ev3, hq⟩ := Option.bind_eq_some_iff.mp hq
    refine jw_getR (o := (some x0)) dX12_noteDeed_62 ev3 fl_X12_72 rfl ?_
    refine jw_sipush dX12_noteDeed_65 (v := (1240 : Int32)) (by decide) ?_
    refine jw_iload_n dX12_noteDeed_68 rfl ?_
    refine jw_imul dX12_noteDeed_69 ?_
    refine jw_iload_n dX12_noteDeed_70 rfl ?_
    refine jw_iadd dX12_noteDeed_71 ?_
    refine jw_aload_n dX12_noteDeed_72 (o := (some x0)) rfl ?_
    obtain ⟨v4, ev4, hq⟩ := Option.bind_eq_some_iff.mp hq
    refine jw_getR (o := (some x0)) dX12_noteDeed_73 ev4 fl_X12_23 rfl ?_
    refine jw_sipush dX12_noteDeed_76 (v := (14880 : Int32)) (by decide) ?_
    refine jw_iload_n dX12_noteDeed_79 rfl ?_
    refine jw_iadd dX12_noteDeed_80 ?_
    obtain ⟨v5, ev5, hq⟩ := Option.bind_eq_some_iff.mp hq
    refine jw_iald (o := v4) dX12_noteDeed_81 ev5 ?_
    obtain ⟨h6, eh6, hq⟩ := Option.bind_eq_some_iff.mp hq
    refine jw_iast (o := v3) dX12_noteDeed_82 eh6 ?_
    refine jw_iinc (L' := [some (.ref x0), some (.int x1), some (.int (x2 + (1 : Int32)))]) dX12_noteDeed_83 rfl (v := (1 : Int32)) (by decide) (Nat.le_of_ble_eq_true rfl) rfl ?_
    refine jw_goto (tgt := 50) dX12_noteDeed_86 (by decide) ?_
    exact hk50 _ _ _ _ _ _ hq

theorem l_X12_noteDeed_b50 {hi : jw_H} : ∀ (n : Nat) (h : jw_H) (x0 : Nat) (x1 : Int32) (x2 : Int32) (r : Unit) (h' : jw_H), f_X12_noteDeed_b50  n h x0 x1 x2 = some (r, h') → jw_E 0 uX12_noteDeed hi 50 [some (.ref x0), some (.int x1), some (.int x2)] [] h (.inl none) h' := by
  intro n
  induction n with
  | zero => intro h x0 x1 x2 r h' hq; exact nomatch hq
  | succ n ih => intro h x0 x1 x2 r h' hq; exact l_X12_noteDeed_b50g ih hq

set_option maxRecDepth 100000 in
set_option maxHeartbeats 4000000 in
theorem l_X12_noteDeed_b48 {hi : jw_H} {h : jw_H} {x0 : Nat} {x1 : Int32} {r : Unit} {h' : jw_H} (hq : g_X12_noteDeed_b48  h x0 x1 = some (r, h')) : jw_E 0 uX12_noteDeed hi 48 [some (.ref x0), some (.int x1), none] [] h (.inl none) h' := by
  unfold g_X12_noteDeed_b48 at hq
  refine jw_iconst dX12_noteDeed_48 (v := (0 : Int32)) (by decide) ?_
  refine jw_istore_n (L' := [some (.ref x0), some (.int x1), some (.int (0 : Int32))]) dX12_noteDeed_49 (Nat.le_of_ble_eq_true rfl) rfl ?_
  exact l_X12_noteDeed_b50  jw_FU _ _ _ _ _ _ hq

set_option maxRecDepth 100000 in
set_option maxHeartbeats 4000000 in
theorem l_X12_noteDeed {hi : jw_H} {h : jw_H} {x0 : Nat} {r : Unit} {h' : jw_H} (hq : f_X12_noteDeed  h x0 = some (r, h')) : jw_E 0 uX12_noteDeed hi 0 [some (.ref x0), none, none] [] h (.inl none) h' := by
  unfold f_X12_noteDeed at hq
  refine jw_aload_n dX12_noteDeed_0 (o := (some x0)) rfl ?_
  obtain ⟨v1, ev1, hq⟩ := Option.bind_eq_some_iff.mp hq
  refine jw_getI (o := (some x0)) dX12_noteDeed_1 ev1 fl_X12_491 rfl ?_
  refine jw_aload_n dX12_noteDeed_4 (o := (some x0)) rfl ?_
  obtain ⟨v2, ev2, hq⟩ := Option.bind_eq_some_iff.mp hq
  refine jw_getI (o := (some x0)) dX12_noteDeed_5 ev2 fl_X12_494 rfl ?_
  refine jw_iadd dX12_noteDeed_8 ?_
  refine jw_bipush dX12_noteDeed_9 (v := (40 : Int32)) (by decide) ?_
  refine jw_irem dX12_noteDeed_11 (by decide) ?_
  refine jw_istore_n (L' := [some (.ref x0), some (.int ((v1 + v2) - (v1 + v2) / (40 : Int32) * (40 : Int32))), none]) dX12_noteDeed_12 (Nat.le_of_ble_eq_true rfl) rfl ?_
  refine jw_aload_n dX12_noteDeed_13 (o := (some x0)) rfl ?_
  obtain ⟨v3, ev3, hq⟩ := Option.bind_eq_some_iff.mp hq
  refine jw_getI (o := (some x0)) dX12_noteDeed_14 ev3 fl_X12_494 rfl ?_
  refine jw_bipush dX12_noteDeed_17 (v := (40 : Int32)) (by decide) ?_
  rcases jw_if hq with ⟨c4, hq⟩ | ⟨c4, hq⟩
  · refine jw_icmp_ne_f (tgt := 38) dX12_noteDeed_19 (by decide) c4 ?_
    refine jw_aload_n dX12_noteDeed_22 (o := (some x0)) rfl ?_
    refine jw_aload_n dX12_noteDeed_23 (o := (some x0)) rfl ?_
    obtain ⟨v7, ev7, hq⟩ := Option.bind_eq_some_iff.mp hq
    refine jw_getI (o := (some x0)) dX12_noteDeed_24 ev7 fl_X12_491 rfl ?_
    refine jw_iconst dX12_noteDeed_27 (v := (1 : Int32)) (by decide) ?_
    refine jw_iadd dX12_noteDeed_28 ?_
    refine jw_bipush dX12_noteDeed_29 (v := (40 : Int32)) (by decide) ?_
    refine jw_irem dX12_noteDeed_31 (by decide) ?_
    obtain ⟨h8, eh8, hq⟩ := Option.bind_eq_some_iff.mp hq
    refine jw_putI (o := (some x0)) dX12_noteDeed_32 eh8 fl_X12_491 rfl rfl ?_
    refine jw_goto (tgt := 48) dX12_noteDeed_35 (by decide) ?_
    exact l_X12_noteDeed_b48  hq
  · refine jw_icmp_ne_t (tgt := 38) dX12_noteDeed_19 (by decide) c4 ?_
    refine jw_aload_n dX12_noteDeed_38 (o := (some x0)) rfl ?_
    refine jw_dup dX12_noteDeed_39 rfl ?_
    obtain ⟨v5, ev5, hq⟩ := Option.bind_eq_some_iff.mp hq
    refine jw_getI (o := (some x0)) dX12_noteDeed_40 ev5 fl_X12_494 rfl ?_
    refine jw_iconst dX12_noteDeed_43 (v := (1 : Int32)) (by decide) ?_
    refine jw_iadd dX12_noteDeed_44 ?_
    obtain ⟨h6, eh6, hq⟩ := Option.bind_eq_some_iff.mp hq
    refine jw_putI (o := (some x0)) dX12_noteDeed_45 eh6 fl_X12_494 rfl rfl ?_
    exact l_X12_noteDeed_b48  hq

theorem c_X12_noteDeed {h : jw_H} {x0 : Nat} {r : Unit} {h' : jw_H} (hq : f_X12_noteDeed h x0 = some (r, h')) : jw_Con (Cond.code yX12_noteDeed cX12_noteDeed 3 none) yX12_noteDeed 0 [.ref x0] h (.inl none) h' :=
  jw_con false (plainFor_of_name (by decide +kernel)) (fun z => nomatch z) (by simp [jw_ent, jw_sl0_nil, jw_sl0_int, jw_sl0_long, jw_sl0_ref, jw_sl0_rf, jw_sl0_scr, List.replicate]) (by simp [jw_sl0_nil, jw_sl0_int, jw_sl0_long, jw_sl0_ref, jw_sl0_rf, jw_sl0_scr]) (l_X12_noteDeed hq)


/-! X12_latestDeed -/
noncomputable def f_X12_latestDeed (h : jw_H) (x0 : Nat) : Option (Int32 × jw_H) :=
 (jw_gI h 12 (some x0) 61).bind fun v1 =>
 (jw_gI h 12 (some x0) 62).bind fun v2 =>
 some ((((v1 + v2) - (1 : Int32)) - ((v1 + v2) - (1 : Int32)) / (40 : Int32) * (40 : Int32)), h)

set_option maxRecDepth 100000 in
set_option maxHeartbeats 4000000 in
theorem l_X12_latestDeed {hi : jw_H} {h : jw_H} {x0 : Nat} {r : Int32} {h' : jw_H} (hq : f_X12_latestDeed  h x0 = some (r, h')) : jw_E 0 uX12_latestDeed hi 0 [some (.ref x0)] [] h (.inl (some (.int r))) h' := by
  unfold f_X12_latestDeed at hq
  refine jw_aload_n dX12_latestDeed_0 (o := (some x0)) rfl ?_
  obtain ⟨v1, ev1, hq⟩ := Option.bind_eq_some_iff.mp hq
  refine jw_getI (o := (some x0)) dX12_latestDeed_1 ev1 fl_X12_491 rfl ?_
  refine jw_aload_n dX12_latestDeed_4 (o := (some x0)) rfl ?_
  obtain ⟨v2, ev2, hq⟩ := Option.bind_eq_some_iff.mp hq
  refine jw_getI (o := (some x0)) dX12_latestDeed_5 ev2 fl_X12_494 rfl ?_
  refine jw_iadd dX12_latestDeed_8 ?_
  refine jw_iconst dX12_latestDeed_9 (v := (1 : Int32)) (by decide) ?_
  refine jw_isub dX12_latestDeed_10 ?_
  refine jw_bipush dX12_latestDeed_11 (v := (40 : Int32)) (by decide) ?_
  refine jw_irem dX12_latestDeed_13 (by decide) ?_
  cases hq
  exact jw_iret (ty := .int) dX12_latestDeed_14 rfl rfl

theorem c_X12_latestDeed {h : jw_H} {x0 : Nat} {r : Int32} {h' : jw_H} (hq : f_X12_latestDeed h x0 = some (r, h')) : jw_Con (Cond.code yX12_latestDeed cX12_latestDeed 1 (some .int)) yX12_latestDeed 0 [.ref x0] h (.inl (some (.int r))) h' :=
  jw_con false (plainFor_of_name (by decide +kernel)) (fun z => nomatch z) (by simp [jw_ent, jw_sl0_nil, jw_sl0_int, jw_sl0_long, jw_sl0_ref, jw_sl0_rf, jw_sl0_scr, List.replicate]) (by simp [jw_sl0_nil, jw_sl0_int, jw_sl0_long, jw_sl0_ref, jw_sl0_rf, jw_sl0_scr]) (l_X12_latestDeed hq)


/-! X12_undoLatest -/
noncomputable def g_X12_undoLatest_b107 (k107 : jw_H → Nat → Int32 → Int32 → Option (Unit × jw_H)) (h : jw_H) (x0 : Nat) (x1 : Int32) (x2 : Int32) : Option (Unit × jw_H) :=
 if (5 : Int32) ≤ x2 then (some ((), h))
 else ((jw_gR h 12 (some x0) 10).bind fun v2 =>
 (jw_gR h 12 (some x0) 57).bind fun v3 =>
 (jw_ai h 20 v3 (((5 : Int32) * x1) + x2)).bind fun v4 =>
 (jw_si h 20 v2 x2 v4).bind fun h5 =>
 k107 h5 x0 x1 (x2 + (1 : Int32)))

noncomputable def f_X12_undoLatest_b107 (n : Nat) : jw_H → Nat → Int32 → Int32 → Option (Unit × jw_H) :=
 Nat.rec (fun _ _ _ _ => none) (fun _ k107 => g_X12_undoLatest_b107 k107) n

noncomputable def g_X12_undoLatest_b74 (k74 : jw_H → Nat → Int32 → Int32 → Option (Unit × jw_H)) (h : jw_H) (x0 : Nat) (x1 : Int32) (x2 : Int32) : Option (Unit × jw_H) :=
 (jw_gI h 12 (some x0) 12).bind fun v1 =>
 if v1 ≤ x2 then (f_X12_undoLatest_b107  jw_FU h x0 x1 (0 : Int32))
 else ((jw_gR h 12 (some x0) 7).bind fun v3 =>
 (jw_gR h 12 (some x0) 56).bind fun v4 =>
 (jw_ai h 20 v4 (((40 : Int32) * x1) + x2)).bind fun v5 =>
 (jw_si h 20 v3 x2 v5).bind fun h6 =>
 k74 h6 x0 x1 (x2 + (1 : Int32)))

noncomputable def f_X12_undoLatest_b74 (n : Nat) : jw_H → Nat → Int32 → Int32 → Option (Unit × jw_H) :=
 Nat.rec (fun _ _ _ _ => none) (fun _ k74 => g_X12_undoLatest_b74 k74) n

noncomputable def g_X12_undoLatest_b37 (k37 : jw_H → Nat → Int32 → Int32 → Option (Unit × jw_H)) (h : jw_H) (x0 : Nat) (x1 : Int32) (x2 : Int32) : Option (Unit × jw_H) :=
 (jw_gI h 12 (some x0) 12).bind fun v1 =>
 if ((31 : Int32) * v1) ≤ x2 then (f_X12_undoLatest_b74  jw_FU h x0 x1 (0 : Int32))
 else ((jw_gR h 12 (some x0) 6).bind fun v3 =>
 (jw_gR h 12 (some x0) 55).bind fun v4 =>
 (jw_ai h 20 v4 (((1240 : Int32) * x1) + x2)).bind fun v5 =>
 (jw_si h 20 v3 x2 v5).bind fun h6 =>
 k37 h6 x0 x1 (x2 + (1 : Int32)))

noncomputable def f_X12_undoLatest_b37 (n : Nat) : jw_H → Nat → Int32 → Int32 → Option (Unit × jw_H) :=
 Nat.rec (fun _ _ _ _ => none) (fun _ k37 => g_X12_undoLatest_b37 k37) n

noncomputable def f_X12_undoLatest (h : jw_H) (x0 : Nat) : Option (Unit × jw_H) :=
 (jw_rc h 12 (some x0)).bind fun a1 =>
 jw_b2 (f_X12_latestDeed h a1) fun w3 h2 =>
 (jw_gI h2 12 (some x0) 62).bind fun v4 =>
 (jw_pI h2 12 (some x0) 62 (v4 - (1 : Int32))).bind fun h5 =>
 (jw_gR h5 12 (some x0) 58).bind fun v6 =>
 (jw_ai h5 20 v6 w3).bind fun v7 =>
 (jw_pI h5 12 (some x0) 12 v7).bind fun h8 =>
 (jw_gR h8 12 (some x0) 59).bind fun v9 =>
 (jw_ai h8 20 v9 w3).bind fun v10 =>
 (jw_pI h8 12 (some x0) 16 v10).bind fun h11 =>
 f_X12_undoLatest_b37  jw_FU h11 x0 w3 (0 : Int32)

set_option maxRecDepth 100000 in
set_option maxHeartbeats 4000000 in
theorem l_X12_undoLatest_b107g {hi : jw_H} {k107 : jw_H → Nat → Int32 → Int32 → Option (Unit × jw_H)} (hk107 : ∀ (h : jw_H) (x0 : Nat) (x1 : Int32) (x2 : Int32) (r : Unit) (h' : jw_H), k107 h x0 x1 x2 = some (r, h') → jw_E 1 uX12_undoLatest hi 107 [some (.ref x0), some (.int x1), some (.int x2)] [] h (.inl none) h') {h : jw_H} {x0 : Nat} {x1 : Int32} {x2 : Int32} {r : Unit} {h' : jw_H} (hq : g_X12_undoLatest_b107 k107 h x0 x1 x2 = some (r, h')) : jw_E 1 uX12_undoLatest hi 107 [some (.ref x0), some (.int x1), some (.int x2)] [] h (.inl none) h' := by
  unfold g_X12_undoLatest_b107 at hq
  refine jw_iload_n dX12_undoLatest_107 rfl ?_
  refine jw_iconst dX12_undoLatest_108 (v := (5 : Int32)) (by decide) ?_
  rcases jw_if hq with ⟨c1, hq⟩ | ⟨c1, hq⟩
  · refine jw_icmp_ge_t (tgt := 134) dX12_undoLatest_109 (by decide) c1 ?_
    cases hq
    exact jw_vret dX12_undoLatest_134 rfl
  · refine jw_icmp_ge_f (tgt := 134) dX12_undoLatest_109 (by decide) c1 ?_
    refine jw_aload_n dX12_undoLatest_112 (o := (some x0)) rfl ?_
    obtain ⟨v2, ev2, hq⟩ := Option.bind_eq_some_iff.mp hq
    refine jw_getR (o := (some x0)) dX12_undoLatest_113 ev2 fl_X12_35 rfl ?_
    refine jw_iload_n dX12_undoLatest_116 rfl ?_
    refine jw_aload_n dX12_undoLatest_117 (o := (some x0)) rfl ?_
    obtain ⟨v3, ev3, hq⟩ := Option.bind_eq_some_iff.mp hq
    refine jw_getR (o := (some x0)) dX12_undoLatest_118 ev3 fl_X12_78 rfl ?_
    refine jw_iconst dX12_undoLatest_121 (v := (5 : Int32)) (by decide) ?_
    refine jw_iload_n dX12_undoLatest_122 rfl ?_
    refine jw_imul dX12_undoLatest_123 ?_
    refine jw_iload_n dX12_undoLatest_124 rfl ?_
    refine jw_iadd dX12_undoLatest_125 ?_
    obtain ⟨v4, ev4, hq⟩ := Option.bind_eq_some_iff.mp hq
    refine jw_iald (o := v3) dX12_undoLatest_126 ev4 ?_
    obtain ⟨h5, eh5, hq⟩ := Option.bind_eq_some_iff.mp hq
    refine jw_iast (o := v2) dX12_undoLatest_127 eh5 ?_
    refine jw_iinc (L' := [some (.ref x0), some (.int x1), some (.int (x2 + (1 : Int32)))]) dX12_undoLatest_128 rfl (v := (1 : Int32)) (by decide) (Nat.le_of_ble_eq_true rfl) rfl ?_
    refine jw_goto (tgt := 107) dX12_undoLatest_131 (by decide) ?_
    exact hk107 _ _ _ _ _ _ hq

theorem l_X12_undoLatest_b107 {hi : jw_H} : ∀ (n : Nat) (h : jw_H) (x0 : Nat) (x1 : Int32) (x2 : Int32) (r : Unit) (h' : jw_H), f_X12_undoLatest_b107  n h x0 x1 x2 = some (r, h') → jw_E 1 uX12_undoLatest hi 107 [some (.ref x0), some (.int x1), some (.int x2)] [] h (.inl none) h' := by
  intro n
  induction n with
  | zero => intro h x0 x1 x2 r h' hq; exact nomatch hq
  | succ n ih => intro h x0 x1 x2 r h' hq; exact l_X12_undoLatest_b107g ih hq

set_option maxRecDepth 100000 in
set_option maxHeartbeats 4000000 in
theorem l_X12_undoLatest_b74g {hi : jw_H} {k74 : jw_H → Nat → Int32 → Int32 → Option (Unit × jw_H)} (hk74 : ∀ (h : jw_H) (x0 : Nat) (x1 : Int32) (x2 : Int32) (r : Unit) (h' : jw_H), k74 h x0 x1 x2 = some (r, h') → jw_E 1 uX12_undoLatest hi 74 [some (.ref x0), some (.int x1), some (.int x2)] [] h (.inl none) h') {h : jw_H} {x0 : Nat} {x1 : Int32} {x2 : Int32} {r : Unit} {h' : jw_H} (hq : g_X12_undoLatest_b74 k74 h x0 x1 x2 = some (r, h')) : jw_E 1 uX12_undoLatest hi 74 [some (.ref x0), some (.int x1), some (.int x2)] [] h (.inl none) h' := by
  unfold g_X12_undoLatest_b74 at hq
  refine jw_iload_n dX12_undoLatest_74 rfl ?_
  refine jw_aload_n dX12_undoLatest_75 (o := (some x0)) rfl ?_
  obtain ⟨v1, ev1, hq⟩ := Option.bind_eq_some_iff.mp hq
  refine jw_getI (o := (some x0)) dX12_undoLatest_76 ev1 fl_X12_124 rfl ?_
  rcases jw_if hq with ⟨c2, hq⟩ | ⟨c2, hq⟩
  · refine jw_icmp_ge_t (tgt := 105) dX12_undoLatest_79 (by decide) c2 ?_
    refine jw_iconst dX12_undoLatest_105 (v := (0 : Int32)) (by decide) ?_
    refine jw_istore_n (L' := [some (.ref x0), some (.int x1), some (.int (0 : Int32))]) dX12_undoLatest_106 (Nat.le_of_ble_eq_true rfl) rfl ?_
    exact l_X12_undoLatest_b107  jw_FU _ _ _ _ _ _ hq
  · refine jw_icmp_ge_f (tgt := 105) dX12_undoLatest_79 (by decide) c2 ?_
    refine jw_aload_n dX12_undoLatest_82 (o := (some x0)) rfl ?_
    obtain ⟨v3, ev3, hq⟩ := Option.bind_eq_some_iff.mp hq
    refine jw_getR (o := (some x0)) dX12_undoLatest_83 ev3 fl_X12_26 rfl ?_
    refine jw_iload_n dX12_undoLatest_86 rfl ?_
    refine jw_aload_n dX12_undoLatest_87 (o := (some x0)) rfl ?_
    obtain ⟨v4, ev4, hq⟩ := Option.bind_eq_some_iff.mp hq
    refine jw_getR (o := (some x0)) dX12_undoLatest_88 ev4 fl_X12_75 rfl ?_
    refine jw_bipush dX12_undoLatest_91 (v := (40 : Int32)) (by decide) ?_
    refine jw_iload_n dX12_undoLatest_93 rfl ?_
    refine jw_imul dX12_undoLatest_94 ?_
    refine jw_iload_n dX12_undoLatest_95 rfl ?_
    refine jw_iadd dX12_undoLatest_96 ?_
    obtain ⟨v5, ev5, hq⟩ := Option.bind_eq_some_iff.mp hq
    refine jw_iald (o := v4) dX12_undoLatest_97 ev5 ?_
    obtain ⟨h6, eh6, hq⟩ := Option.bind_eq_some_iff.mp hq
    refine jw_iast (o := v3) dX12_undoLatest_98 eh6 ?_
    refine jw_iinc (L' := [some (.ref x0), some (.int x1), some (.int (x2 + (1 : Int32)))]) dX12_undoLatest_99 rfl (v := (1 : Int32)) (by decide) (Nat.le_of_ble_eq_true rfl) rfl ?_
    refine jw_goto (tgt := 74) dX12_undoLatest_102 (by decide) ?_
    exact hk74 _ _ _ _ _ _ hq

theorem l_X12_undoLatest_b74 {hi : jw_H} : ∀ (n : Nat) (h : jw_H) (x0 : Nat) (x1 : Int32) (x2 : Int32) (r : Unit) (h' : jw_H), f_X12_undoLatest_b74  n h x0 x1 x2 = some (r, h') → jw_E 1 uX12_undoLatest hi 74 [some (.ref x0), some (.int x1), some (.int x2)] [] h (.inl none) h' := by
  intro n
  induction n with
  | zero => intro h x0 x1 x2 r h' hq; exact nomatch hq
  | succ n ih => intro h x0 x1 x2 r h' hq; exact l_X12_undoLatest_b74g ih hq

set_option maxRecDepth 100000 in
set_option maxHeartbeats 4000000 in
theorem l_X12_undoLatest_b37g {hi : jw_H} {k37 : jw_H → Nat → Int32 → Int32 → Option (Unit × jw_H)} (hk37 : ∀ (h : jw_H) (x0 : Nat) (x1 : Int32) (x2 : Int32) (r : Unit) (h' : jw_H), k37 h x0 x1 x2 = some (r, h') → jw_E 1 uX12_undoLatest hi 37 [some (.ref x0), some (.int x1), some (.int x2)] [] h (.inl none) h') {h : jw_H} {x0 : Nat} {x1 : Int32} {x2 : Int32} {r : Unit} {h' : jw_H} (hq : g_X12_undoLatest_b37 k37 h x0 x1 x2 = some (r, h')) : jw_E 1 uX12_undoLatest hi 37 [some (.ref x0), some (.int x1), some (.int x2)] [] h (.inl none) h' := by
  unfold g_X12_undoLatest_b37 at hq
  refine jw_iload_n dX12_undoLatest_37 rfl ?_
  refine jw_bipush dX12_undoLatest_38 (v := (31 : Int32)) (by decide) ?_
  refine jw_aload_n dX12_undoLatest_40 (o := (some x0)) rfl ?_
  obtain ⟨v1, ev1, hq⟩ := Option.bind_eq_some_iff.mp hq
  refine jw_getI (o := (some x0)) dX12_undoLatest_41 ev1 fl_X12_124 rfl ?_
  refine jw_imul dX12_undoLatest_44 ?_
  rcases jw_if hq with ⟨c2, hq⟩ | ⟨c2, hq⟩
  · refine jw_icmp_ge_t (tgt := 72) dX12_undoLatest_45 (by decide) c2 ?_
    refine jw_iconst dX12_undoLatest_72 (v := (0 : Int32)) (by decide) ?_
    refine jw_istore_n (L' := [some (.ref x0), some (.int x1), some (.int (0 : Int32))]) dX12_undoLatest_73 (Nat.le_of_ble_eq_true rfl) rfl ?_
    exact l_X12_undoLatest_b74  jw_FU _ _ _ _ _ _ hq
  · refine jw_icmp_ge_f (tgt := 72) dX12_undoLatest_45 (by decide) c2 ?_
    refine jw_aload_n dX12_undoLatest_48 (o := (some x0)) rfl ?_
    obtain ⟨v3, ev3, hq⟩ := Option.bind_eq_some_iff.mp hq
    refine jw_getR (o := (some x0)) dX12_undoLatest_49 ev3 fl_X12_23 rfl ?_
    refine jw_iload_n dX12_undoLatest_52 rfl ?_
    refine jw_aload_n dX12_undoLatest_53 (o := (some x0)) rfl ?_
    obtain ⟨v4, ev4, hq⟩ := Option.bind_eq_some_iff.mp hq
    refine jw_getR (o := (some x0)) dX12_undoLatest_54 ev4 fl_X12_72 rfl ?_
    refine jw_sipush dX12_undoLatest_57 (v := (1240 : Int32)) (by decide) ?_
    refine jw_iload_n dX12_undoLatest_60 rfl ?_
    refine jw_imul dX12_undoLatest_61 ?_
    refine jw_iload_n dX12_undoLatest_62 rfl ?_
    refine jw_iadd dX12_undoLatest_63 ?_
    obtain ⟨v5, ev5, hq⟩ := Option.bind_eq_some_iff.mp hq
    refine jw_iald (o := v4) dX12_undoLatest_64 ev5 ?_
    obtain ⟨h6, eh6, hq⟩ := Option.bind_eq_some_iff.mp hq
    refine jw_iast (o := v3) dX12_undoLatest_65 eh6 ?_
    refine jw_iinc (L' := [some (.ref x0), some (.int x1), some (.int (x2 + (1 : Int32)))]) dX12_undoLatest_66 rfl (v := (1 : Int32)) (by decide) (Nat.le_of_ble_eq_true rfl) rfl ?_
    refine jw_goto (tgt := 37) dX12_undoLatest_69 (by decide) ?_
    exact hk37 _ _ _ _ _ _ hq

theorem l_X12_undoLatest_b37 {hi : jw_H} : ∀ (n : Nat) (h : jw_H) (x0 : Nat) (x1 : Int32) (x2 : Int32) (r : Unit) (h' : jw_H), f_X12_undoLatest_b37  n h x0 x1 x2 = some (r, h') → jw_E 1 uX12_undoLatest hi 37 [some (.ref x0), some (.int x1), some (.int x2)] [] h (.inl none) h' := by
  intro n
  induction n with
  | zero => intro h x0 x1 x2 r h' hq; exact nomatch hq
  | succ n ih => intro h x0 x1 x2 r h' hq; exact l_X12_undoLatest_b37g ih hq

set_option maxRecDepth 100000 in
set_option maxHeartbeats 4000000 in
theorem l_X12_undoLatest {hi : jw_H} {h : jw_H} {x0 : Nat} {r : Unit} {h' : jw_H} (hq : f_X12_undoLatest  h x0 = some (r, h')) : jw_E 1 uX12_undoLatest hi 0 [some (.ref x0), none, none] [] h (.inl none) h' := by
  unfold f_X12_undoLatest at hq
  refine jw_aload_n dX12_undoLatest_0 (o := (some x0)) rfl ?_
  obtain ⟨a1, ea1, hq⟩ := Option.bind_eq_some_iff.mp hq
  obtain ⟨eoa1, eta1⟩ := jw_rc_spec ea1
  obtain ⟨w3, h2, ew3, hq⟩ := jw_b2_spec hq
  refine jw_callV (As := []) (S := []) (a := a1) (v := some (.int w3)) dX12_undoLatest_1 mt_X12_latestDeed in_X12_latestDeed se_X12_latestDeed lk_X12_500 (c_X12_latestDeed ew3) eta1 (by decide) rfl rfl (by decide) (Nat.le_of_ble_eq_true rfl) (by cases eoa1; rfl) ?_
  refine jw_istore_n (L' := [some (.ref x0), some (.int w3), none]) dX12_undoLatest_4 (Nat.le_of_ble_eq_true rfl) rfl ?_
  refine jw_aload_n dX12_undoLatest_5 (o := (some x0)) rfl ?_
  refine jw_dup dX12_undoLatest_6 rfl ?_
  obtain ⟨v4, ev4, hq⟩ := Option.bind_eq_some_iff.mp hq
  refine jw_getI (o := (some x0)) dX12_undoLatest_7 ev4 fl_X12_494 rfl ?_
  refine jw_iconst dX12_undoLatest_10 (v := (1 : Int32)) (by decide) ?_
  refine jw_isub dX12_undoLatest_11 ?_
  obtain ⟨h5, eh5, hq⟩ := Option.bind_eq_some_iff.mp hq
  refine jw_putI (o := (some x0)) dX12_undoLatest_12 eh5 fl_X12_494 rfl rfl ?_
  refine jw_aload_n dX12_undoLatest_15 (o := (some x0)) rfl ?_
  refine jw_aload_n dX12_undoLatest_16 (o := (some x0)) rfl ?_
  obtain ⟨v6, ev6, hq⟩ := Option.bind_eq_some_iff.mp hq
  refine jw_getR (o := (some x0)) dX12_undoLatest_17 ev6 fl_X12_81 rfl ?_
  refine jw_iload_n dX12_undoLatest_20 rfl ?_
  obtain ⟨v7, ev7, hq⟩ := Option.bind_eq_some_iff.mp hq
  refine jw_iald (o := v6) dX12_undoLatest_21 ev7 ?_
  obtain ⟨h8, eh8, hq⟩ := Option.bind_eq_some_iff.mp hq
  refine jw_putI (o := (some x0)) dX12_undoLatest_22 eh8 fl_X12_124 rfl rfl ?_
  refine jw_aload_n dX12_undoLatest_25 (o := (some x0)) rfl ?_
  refine jw_aload_n dX12_undoLatest_26 (o := (some x0)) rfl ?_
  obtain ⟨v9, ev9, hq⟩ := Option.bind_eq_some_iff.mp hq
  refine jw_getR (o := (some x0)) dX12_undoLatest_27 ev9 fl_X12_84 rfl ?_
  refine jw_iload_n dX12_undoLatest_30 rfl ?_
  obtain ⟨v10, ev10, hq⟩ := Option.bind_eq_some_iff.mp hq
  refine jw_iald (o := v9) dX12_undoLatest_31 ev10 ?_
  obtain ⟨h11, eh11, hq⟩ := Option.bind_eq_some_iff.mp hq
  refine jw_putI (o := (some x0)) dX12_undoLatest_32 eh11 fl_X12_295 rfl rfl ?_
  refine jw_iconst dX12_undoLatest_35 (v := (0 : Int32)) (by decide) ?_
  refine jw_istore_n (L' := [some (.ref x0), some (.int w3), some (.int (0 : Int32))]) dX12_undoLatest_36 (Nat.le_of_ble_eq_true rfl) rfl ?_
  exact l_X12_undoLatest_b37  jw_FU _ _ _ _ _ _ hq

theorem c_X12_undoLatest {h : jw_H} {x0 : Nat} {r : Unit} {h' : jw_H} (hq : f_X12_undoLatest h x0 = some (r, h')) : jw_Con (Cond.code yX12_undoLatest cX12_undoLatest 3 none) yX12_undoLatest 1 [.ref x0] h (.inl none) h' :=
  jw_con false (plainFor_of_name (by decide +kernel)) (fun z => nomatch z) (by simp [jw_ent, jw_sl0_nil, jw_sl0_int, jw_sl0_long, jw_sl0_ref, jw_sl0_rf, jw_sl0_scr, List.replicate]) (by simp [jw_sl0_nil, jw_sl0_int, jw_sl0_long, jw_sl0_ref, jw_sl0_rf, jw_sl0_scr]) (l_X12_undoLatest hq)


/-! X12_behindLabel -/
noncomputable def g_X12_behindLabel_b58 (h : jw_H) (t0 : Int32) : Option (Int32 × jw_H) :=
 some (t0, h)

noncomputable def g_X12_behindLabel_b59 (k2 : jw_H → Nat → Int32 → Int32 → Option (Int32 × jw_H)) (h : jw_H) (x0 : Nat) (x1 : Int32) (x3 : Int32) : Option (Int32 × jw_H) :=
 k2 h x0 x1 (x3 + (1 : Int32))

noncomputable def g_X12_behindLabel_b2 (k2 : jw_H → Nat → Int32 → Int32 → Option (Int32 × jw_H)) (h : jw_H) (x0 : Nat) (x1 : Int32) (x2 : Int32) : Option (Int32 × jw_H) :=
 (jw_gI h 12 (some x0) 22).bind fun v1 =>
 if v1 ≤ x2 then (some ((-1 : Int32), h))
 else ((jw_rc h 12 (some x0)).bind fun a3 =>
 jw_b2 (f_X12_endOf h a3 x2 (0 : Int32)) fun w5 h4 =>
 (jw_gR h4 12 (some x0) 21).bind fun v6 =>
 (jw_ai h4 20 v6 x2).bind fun v7 =>
 if v7 = (58 : Int32) then ((jw_gR h4 12 (some x0) 21).bind fun v9 =>
 (jw_ai h4 20 v9 (x2 + (1 : Int32))).bind fun v10 =>
 if v10 = x1 then ((jw_gI h4 12 (some x0) 22).bind fun v12 =>
 if v12 ≤ w5 then ((jw_gI h4 12 (some x0) 22).bind fun v14 =>
 g_X12_behindLabel_b58  h4 v14)
 else (g_X12_behindLabel_b58  h4 (w5 + (1 : Int32))))
 else (g_X12_behindLabel_b59 k2 h4 x0 x1 w5))
 else (g_X12_behindLabel_b59 k2 h4 x0 x1 w5))

noncomputable def f_X12_behindLabel_b2 (n : Nat) : jw_H → Nat → Int32 → Int32 → Option (Int32 × jw_H) :=
 Nat.rec (fun _ _ _ _ => none) (fun _ k2 => g_X12_behindLabel_b2 k2) n

noncomputable def f_X12_behindLabel (h : jw_H) (x0 : Nat) (x1 : Int32) : Option (Int32 × jw_H) :=
 f_X12_behindLabel_b2  jw_FU h x0 x1 (0 : Int32)

set_option maxRecDepth 100000 in
set_option maxHeartbeats 4000000 in
theorem l_X12_behindLabel_b58 {hi : jw_H} {h : jw_H} {t0 : Int32} {r : Int32} {h' : jw_H} (hq : g_X12_behindLabel_b58  h t0 = some (r, h')) : jw_E 14 uX12_behindLabel hi 58 [none, none, none, none] [.int t0] h (.inl (some (.int r))) h' := by
  unfold g_X12_behindLabel_b58 at hq
  cases hq
  exact jw_iret (ty := .int) dX12_behindLabel_58 rfl rfl

set_option maxRecDepth 100000 in
set_option maxHeartbeats 4000000 in
theorem l_X12_behindLabel_b59 {hi : jw_H} {k2 : jw_H → Nat → Int32 → Int32 → Option (Int32 × jw_H)} (hk2 : ∀ (h : jw_H) (x0 : Nat) (x1 : Int32) (x2 : Int32) (r : Int32) (h' : jw_H), k2 h x0 x1 x2 = some (r, h') → jw_E 14 uX12_behindLabel hi 2 [some (.ref x0), some (.int x1), some (.int x2), none] [] h (.inl (some (.int r))) h') {h : jw_H} {x0 : Nat} {x1 : Int32} {x3 : Int32} {r : Int32} {h' : jw_H} (hq : g_X12_behindLabel_b59 k2 h x0 x1 x3 = some (r, h')) : jw_E 14 uX12_behindLabel hi 59 [some (.ref x0), some (.int x1), none, some (.int x3)] [] h (.inl (some (.int r))) h' := by
  unfold g_X12_behindLabel_b59 at hq
  refine jw_iload_n dX12_behindLabel_59 rfl ?_
  refine jw_iconst dX12_behindLabel_60 (v := (1 : Int32)) (by decide) ?_
  refine jw_iadd dX12_behindLabel_61 ?_
  refine jw_istore_n (L' := [some (.ref x0), some (.int x1), some (.int (x3 + (1 : Int32))), some (.int x3)]) dX12_behindLabel_62 (Nat.le_of_ble_eq_true rfl) rfl ?_
  refine jw_goto (tgt := 2) dX12_behindLabel_63 (by decide) ?_
  refine jw_forget [true, true, true, false] (L' := [some (.ref x0), some (.int x1), some (.int (x3 + (1 : Int32))), none]) rfl ?_
  exact hk2 _ _ _ _ _ _ hq

set_option maxRecDepth 100000 in
set_option maxHeartbeats 4000000 in
theorem l_X12_behindLabel_b2g {hi : jw_H} {k2 : jw_H → Nat → Int32 → Int32 → Option (Int32 × jw_H)} (hk2 : ∀ (h : jw_H) (x0 : Nat) (x1 : Int32) (x2 : Int32) (r : Int32) (h' : jw_H), k2 h x0 x1 x2 = some (r, h') → jw_E 14 uX12_behindLabel hi 2 [some (.ref x0), some (.int x1), some (.int x2), none] [] h (.inl (some (.int r))) h') {h : jw_H} {x0 : Nat} {x1 : Int32} {x2 : Int32} {r : Int32} {h' : jw_H} (hq : g_X12_behindLabel_b2 k2 h x0 x1 x2 = some (r, h')) : jw_E 14 uX12_behindLabel hi 2 [some (.ref x0), some (.int x1), some (.int x2), none] [] h (.inl (some (.int r))) h' := by
  unfold g_X12_behindLabel_b2 at hq
  refine jw_iload_n dX12_behindLabel_2 rfl ?_
  refine jw_aload_n dX12_behindLabel_3 (o := (some x0)) rfl ?_
  obtain ⟨v1, ev1, hq⟩ := Option.bind_eq_some_iff.mp hq
  refine jw_getI (o := (some x0)) dX12_behindLabel_4 ev1 fl_X12_146 rfl ?_
  rcases jw_if hq with ⟨c2, hq⟩ | ⟨c2, hq⟩
  · refine jw_icmp_ge_t (tgt := 66) dX12_behindLabel_7 (by decide) c2 ?_
    refine jw_iconst dX12_behindLabel_66 (v := (-1 : Int32)) (by decide) ?_
    cases hq
    exact jw_iret (ty := .int) dX12_behindLabel_67 rfl rfl
  · refine jw_icmp_ge_f (tgt := 66) dX12_behindLabel_7 (by decide) c2 ?_
    refine jw_aload_n dX12_behindLabel_10 (o := (some x0)) rfl ?_
    refine jw_iload_n dX12_behindLabel_11 rfl ?_
    refine jw_iconst dX12_behindLabel_12 (v := (0 : Int32)) (by decide) ?_
    obtain ⟨a3, ea3, hq⟩ := Option.bind_eq_some_iff.mp hq
    obtain ⟨eoa3, eta3⟩ := jw_rc_spec ea3
    obtain ⟨w5, h4, ew5, hq⟩ := jw_b2_spec hq
    refine jw_callV (As := [.int x2, .int (0 : Int32)]) (S := []) (a := a3) (v := some (.int w5)) dX12_behindLabel_13 mt_X12_endOf in_X12_endOf se_X12_endOf lk_X12_470 (c_X12_endOf ew5) eta3 (by decide) rfl rfl (by decide) (Nat.le_of_ble_eq_true rfl) (by cases eoa3; rfl) ?_
    refine jw_istore_n (L' := [some (.ref x0), some (.int x1), some (.int x2), some (.int w5)]) dX12_behindLabel_16 (Nat.le_of_ble_eq_true rfl) rfl ?_
    refine jw_aload_n dX12_behindLabel_17 (o := (some x0)) rfl ?_
    obtain ⟨v6, ev6, hq⟩ := Option.bind_eq_some_iff.mp hq
    refine jw_getR (o := (some x0)) dX12_behindLabel_18 ev6 fl_X12_44 rfl ?_
    refine jw_iload_n dX12_behindLabel_21 rfl ?_
    obtain ⟨v7, ev7, hq⟩ := Option.bind_eq_some_iff.mp hq
    refine jw_iald (o := v6) dX12_behindLabel_22 ev7 ?_
    refine jw_bipush dX12_behindLabel_23 (v := (58 : Int32)) (by decide) ?_
    rcases jw_if hq with ⟨c8, hq⟩ | ⟨c8, hq⟩
    · refine jw_icmp_ne_f (tgt := 59) dX12_behindLabel_25 (by decide) c8 ?_
      refine jw_aload_n dX12_behindLabel_28 (o := (some x0)) rfl ?_
      obtain ⟨v9, ev9, hq⟩ := Option.bind_eq_some_iff.mp hq
      refine jw_getR (o := (some x0)) dX12_behindLabel_29 ev9 fl_X12_44 rfl ?_
      refine jw_iload_n dX12_behindLabel_32 rfl ?_
      refine jw_iconst dX12_behindLabel_33 (v := (1 : Int32)) (by decide) ?_
      refine jw_iadd dX12_behindLabel_34 ?_
      obtain ⟨v10, ev10, hq⟩ := Option.bind_eq_some_iff.mp hq
      refine jw_iald (o := v9) dX12_behindLabel_35 ev10 ?_
      refine jw_iload_n dX12_behindLabel_36 rfl ?_
      rcases jw_if hq with ⟨c11, hq⟩ | ⟨c11, hq⟩
      · refine jw_icmp_ne_f (tgt := 59) dX12_behindLabel_37 (by decide) c11 ?_
        refine jw_iload_n dX12_behindLabel_40 rfl ?_
        refine jw_aload_n dX12_behindLabel_41 (o := (some x0)) rfl ?_
        obtain ⟨v12, ev12, hq⟩ := Option.bind_eq_some_iff.mp hq
        refine jw_getI (o := (some x0)) dX12_behindLabel_42 ev12 fl_X12_146 rfl ?_
        rcases jw_if hq with ⟨c13, hq⟩ | ⟨c13, hq⟩
        · refine jw_icmp_ge_t (tgt := 54) dX12_behindLabel_45 (by decide) c13 ?_
          refine jw_aload_n dX12_behindLabel_54 (o := (some x0)) rfl ?_
          obtain ⟨v14, ev14, hq⟩ := Option.bind_eq_some_iff.mp hq
          refine jw_getI (o := (some x0)) dX12_behindLabel_55 ev14 fl_X12_146 rfl ?_
          refine jw_forget [false, false, false, false] (L' := [none, none, none, none]) rfl ?_
          exact l_X12_behindLabel_b58  hq
        · refine jw_icmp_ge_f (tgt := 54) dX12_behindLabel_45 (by decide) c13 ?_
          refine jw_iload_n dX12_behindLabel_48 rfl ?_
          refine jw_iconst dX12_behindLabel_49 (v := (1 : Int32)) (by decide) ?_
          refine jw_iadd dX12_behindLabel_50 ?_
          refine jw_goto (tgt := 58) dX12_behindLabel_51 (by decide) ?_
          refine jw_forget [false, false, false, false] (L' := [none, none, none, none]) rfl ?_
          exact l_X12_behindLabel_b58  hq
      · refine jw_icmp_ne_t (tgt := 59) dX12_behindLabel_37 (by decide) c11 ?_
        refine jw_forget [true, true, false, true] (L' := [some (.ref x0), some (.int x1), none, some (.int w5)]) rfl ?_
        exact l_X12_behindLabel_b59 hk2 hq
    · refine jw_icmp_ne_t (tgt := 59) dX12_behindLabel_25 (by decide) c8 ?_
      refine jw_forget [true, true, false, true] (L' := [some (.ref x0), some (.int x1), none, some (.int w5)]) rfl ?_
      exact l_X12_behindLabel_b59 hk2 hq

theorem l_X12_behindLabel_b2 {hi : jw_H} : ∀ (n : Nat) (h : jw_H) (x0 : Nat) (x1 : Int32) (x2 : Int32) (r : Int32) (h' : jw_H), f_X12_behindLabel_b2  n h x0 x1 x2 = some (r, h') → jw_E 14 uX12_behindLabel hi 2 [some (.ref x0), some (.int x1), some (.int x2), none] [] h (.inl (some (.int r))) h' := by
  intro n
  induction n with
  | zero => intro h x0 x1 x2 r h' hq; exact nomatch hq
  | succ n ih => intro h x0 x1 x2 r h' hq; exact l_X12_behindLabel_b2g ih hq

set_option maxRecDepth 100000 in
set_option maxHeartbeats 4000000 in
theorem l_X12_behindLabel {hi : jw_H} {h : jw_H} {x0 : Nat} {x1 : Int32} {r : Int32} {h' : jw_H} (hq : f_X12_behindLabel  h x0 x1 = some (r, h')) : jw_E 14 uX12_behindLabel hi 0 [some (.ref x0), some (.int x1), none, none] [] h (.inl (some (.int r))) h' := by
  unfold f_X12_behindLabel at hq
  refine jw_iconst dX12_behindLabel_0 (v := (0 : Int32)) (by decide) ?_
  refine jw_istore_n (L' := [some (.ref x0), some (.int x1), some (.int (0 : Int32)), none]) dX12_behindLabel_1 (Nat.le_of_ble_eq_true rfl) rfl ?_
  exact l_X12_behindLabel_b2  jw_FU _ _ _ _ _ _ hq

theorem c_X12_behindLabel {h : jw_H} {x0 : Nat} {x1 : Int32} {r : Int32} {h' : jw_H} (hq : f_X12_behindLabel h x0 x1 = some (r, h')) : jw_Con (Cond.code yX12_behindLabel cX12_behindLabel 4 (some .int)) yX12_behindLabel 14 [.ref x0, .int x1] h (.inl (some (.int r))) h' :=
  jw_con false (plainFor_of_name (by decide +kernel)) (fun z => nomatch z) (by simp [jw_ent, jw_sl0_nil, jw_sl0_int, jw_sl0_long, jw_sl0_ref, jw_sl0_rf, jw_sl0_scr, List.replicate]) (by simp [jw_sl0_nil, jw_sl0_int, jw_sl0_long, jw_sl0_ref, jw_sl0_rf, jw_sl0_scr]) (l_X12_behindLabel hq)


/-! X12_jump -/
noncomputable def g_X12_jump_b70 (h : jw_H) (t0 : Int32) : Option (Int32 × jw_H) :=
 some (t0, h)

noncomputable def g_X12_jump_b54 (h : jw_H) (x0 : Nat) (t0 : Nat) (t1 : Int32) : Option (Int32 × jw_H) :=
 (jw_pI h 12 (some t0) 64 t1).bind fun h1 =>
 (jw_gI h1 12 (some x0) 64).bind fun v2 =>
 if 0 ≤ v2 then (g_X12_jump_b70  h1 (0 : Int32))
 else (g_X12_jump_b70  h1 (6 : Int32))

noncomputable def g_X12_jump_b29 (h : jw_H) (x0 : Nat) (x1 : Int32) (t0 : Int32) : Option (Int32 × jw_H) :=
 if t0 = 0 then ((jw_gI h 12 (some x0) 22).bind fun v2 =>
 g_X12_jump_b54  h x0 x0 v2)
 else ((jw_gR h 12 (some x0) 21).bind fun v3 =>
 (jw_ai h 20 v3 (x1 + (1 : Int32))).bind fun v4 =>
 (jw_rc h 12 (some x0)).bind fun a5 =>
 jw_b2 (f_X12_behindLabel h a5 v4) fun w7 h6 =>
 g_X12_jump_b54  h6 x0 x0 w7)

noncomputable def g_X12_jump_b28 (h : jw_H) (x0 : Nat) (x1 : Int32) : Option (Int32 × jw_H) :=
 g_X12_jump_b29  h x0 x1 (0 : Int32)

noncomputable def f_X12_jump (h : jw_H) (x0 : Nat) (x1 : Int32) : Option (Int32 × jw_H) :=
 (jw_gI h 12 (some x0) 22).bind fun v1 =>
 if v1 ≤ (x1 + (1 : Int32)) then (g_X12_jump_b28  h x0 x1)
 else ((jw_gR h 12 (some x0) 21).bind fun v3 =>
 (jw_ai h 20 v3 (x1 + (1 : Int32))).bind fun v4 =>
 jw_b2 (f_X12_isLabel h v4) fun w6 h5 =>
 if w6 = 0 then (g_X12_jump_b28  h5 x0 x1)
 else (g_X12_jump_b29  h5 x0 x1 (1 : Int32)))

set_option maxRecDepth 100000 in
set_option maxHeartbeats 4000000 in
theorem l_X12_jump_b70 {hi : jw_H} {h : jw_H} {t0 : Int32} {r : Int32} {h' : jw_H} (hq : g_X12_jump_b70  h t0 = some (r, h')) : jw_E 15 uX12_jump hi 70 [none, none, none] [.int t0] h (.inl (some (.int r))) h' := by
  unfold g_X12_jump_b70 at hq
  cases hq
  exact jw_iret (ty := .int) dX12_jump_70 rfl rfl

set_option maxRecDepth 100000 in
set_option maxHeartbeats 4000000 in
theorem l_X12_jump_b54 {hi : jw_H} {h : jw_H} {x0 : Nat} {t0 : Nat} {t1 : Int32} {r : Int32} {h' : jw_H} (hq : g_X12_jump_b54  h x0 t0 t1 = some (r, h')) : jw_E 15 uX12_jump hi 54 [some (.ref x0), none, none] [.int t1, .ref t0] h (.inl (some (.int r))) h' := by
  unfold g_X12_jump_b54 at hq
  obtain ⟨h1, eh1, hq⟩ := Option.bind_eq_some_iff.mp hq
  refine jw_putI (o := (some t0)) dX12_jump_54 eh1 fl_X12_506 rfl rfl ?_
  refine jw_aload_n dX12_jump_57 (o := (some x0)) rfl ?_
  obtain ⟨v2, ev2, hq⟩ := Option.bind_eq_some_iff.mp hq
  refine jw_getI (o := (some x0)) dX12_jump_58 ev2 fl_X12_506 rfl ?_
  rcases jw_if hq with ⟨c3, hq⟩ | ⟨c3, hq⟩
  · refine jw_if_ge_t (tgt := 69) dX12_jump_61 (by decide) c3 ?_
    refine jw_iconst dX12_jump_69 (v := (0 : Int32)) (by decide) ?_
    refine jw_forget [false, true, true] (L' := [none, none, none]) rfl ?_
    exact l_X12_jump_b70  hq
  · refine jw_if_ge_f (tgt := 69) dX12_jump_61 (by decide) c3 ?_
    refine jw_bipush dX12_jump_64 (v := (6 : Int32)) (by decide) ?_
    refine jw_goto (tgt := 70) dX12_jump_66 (by decide) ?_
    refine jw_forget [false, true, true] (L' := [none, none, none]) rfl ?_
    exact l_X12_jump_b70  hq

set_option maxRecDepth 100000 in
set_option maxHeartbeats 4000000 in
theorem l_X12_jump_b29 {hi : jw_H} {h : jw_H} {x0 : Nat} {x1 : Int32} {t0 : Int32} {r : Int32} {h' : jw_H} (hq : g_X12_jump_b29  h x0 x1 t0 = some (r, h')) : jw_E 15 uX12_jump hi 29 [some (.ref x0), some (.int x1), none] [.int t0] h (.inl (some (.int r))) h' := by
  unfold g_X12_jump_b29 at hq
  refine jw_istore_n (L' := [some (.ref x0), some (.int x1), some (.int t0)]) dX12_jump_29 (Nat.le_of_ble_eq_true rfl) rfl ?_
  refine jw_aload_n dX12_jump_30 (o := (some x0)) rfl ?_
  refine jw_iload_n dX12_jump_31 rfl ?_
  rcases jw_if hq with ⟨c1, hq⟩ | ⟨c1, hq⟩
  · refine jw_if_eq_t (tgt := 50) dX12_jump_32 (by decide) c1 ?_
    refine jw_aload_n dX12_jump_50 (o := (some x0)) rfl ?_
    obtain ⟨v2, ev2, hq⟩ := Option.bind_eq_some_iff.mp hq
    refine jw_getI (o := (some x0)) dX12_jump_51 ev2 fl_X12_146 rfl ?_
    refine jw_forget [true, false, false] (L' := [some (.ref x0), none, none]) rfl ?_
    exact l_X12_jump_b54  hq
  · refine jw_if_eq_f (tgt := 50) dX12_jump_32 (by decide) c1 ?_
    refine jw_aload_n dX12_jump_35 (o := (some x0)) rfl ?_
    refine jw_aload_n dX12_jump_36 (o := (some x0)) rfl ?_
    obtain ⟨v3, ev3, hq⟩ := Option.bind_eq_some_iff.mp hq
    refine jw_getR (o := (some x0)) dX12_jump_37 ev3 fl_X12_44 rfl ?_
    refine jw_iload_n dX12_jump_40 rfl ?_
    refine jw_iconst dX12_jump_41 (v := (1 : Int32)) (by decide) ?_
    refine jw_iadd dX12_jump_42 ?_
    obtain ⟨v4, ev4, hq⟩ := Option.bind_eq_some_iff.mp hq
    refine jw_iald (o := v3) dX12_jump_43 ev4 ?_
    obtain ⟨a5, ea5, hq⟩ := Option.bind_eq_some_iff.mp hq
    obtain ⟨eoa5, eta5⟩ := jw_rc_spec ea5
    obtain ⟨w7, h6, ew7, hq⟩ := jw_b2_spec hq
    refine jw_callV (As := [.int v4]) (S := [.ref x0]) (a := a5) (v := some (.int w7)) dX12_jump_44 mt_X12_behindLabel in_X12_behindLabel se_X12_behindLabel lk_X12_503 (c_X12_behindLabel ew7) eta5 (by decide) rfl rfl (by decide) (Nat.le_of_ble_eq_true rfl) (by cases eoa5; rfl) ?_
    refine jw_goto (tgt := 54) dX12_jump_47 (by decide) ?_
    refine jw_forget [true, false, false] (L' := [some (.ref x0), none, none]) rfl ?_
    exact l_X12_jump_b54  hq

set_option maxRecDepth 100000 in
set_option maxHeartbeats 4000000 in
theorem l_X12_jump_b28 {hi : jw_H} {h : jw_H} {x0 : Nat} {x1 : Int32} {r : Int32} {h' : jw_H} (hq : g_X12_jump_b28  h x0 x1 = some (r, h')) : jw_E 15 uX12_jump hi 28 [some (.ref x0), some (.int x1), none] [] h (.inl (some (.int r))) h' := by
  unfold g_X12_jump_b28 at hq
  refine jw_iconst dX12_jump_28 (v := (0 : Int32)) (by decide) ?_
  exact l_X12_jump_b29  hq

set_option maxRecDepth 100000 in
set_option maxHeartbeats 4000000 in
theorem l_X12_jump {hi : jw_H} {h : jw_H} {x0 : Nat} {x1 : Int32} {r : Int32} {h' : jw_H} (hq : f_X12_jump  h x0 x1 = some (r, h')) : jw_E 15 uX12_jump hi 0 [some (.ref x0), some (.int x1), none] [] h (.inl (some (.int r))) h' := by
  unfold f_X12_jump at hq
  refine jw_iload_n dX12_jump_0 rfl ?_
  refine jw_iconst dX12_jump_1 (v := (1 : Int32)) (by decide) ?_
  refine jw_iadd dX12_jump_2 ?_
  refine jw_aload_n dX12_jump_3 (o := (some x0)) rfl ?_
  obtain ⟨v1, ev1, hq⟩ := Option.bind_eq_some_iff.mp hq
  refine jw_getI (o := (some x0)) dX12_jump_4 ev1 fl_X12_146 rfl ?_
  rcases jw_if hq with ⟨c2, hq⟩ | ⟨c2, hq⟩
  · refine jw_icmp_ge_t (tgt := 28) dX12_jump_7 (by decide) c2 ?_
    exact l_X12_jump_b28  hq
  · refine jw_icmp_ge_f (tgt := 28) dX12_jump_7 (by decide) c2 ?_
    refine jw_aload_n dX12_jump_10 (o := (some x0)) rfl ?_
    obtain ⟨v3, ev3, hq⟩ := Option.bind_eq_some_iff.mp hq
    refine jw_getR (o := (some x0)) dX12_jump_11 ev3 fl_X12_44 rfl ?_
    refine jw_iload_n dX12_jump_14 rfl ?_
    refine jw_iconst dX12_jump_15 (v := (1 : Int32)) (by decide) ?_
    refine jw_iadd dX12_jump_16 ?_
    obtain ⟨v4, ev4, hq⟩ := Option.bind_eq_some_iff.mp hq
    refine jw_iald (o := v3) dX12_jump_17 ev4 ?_
    obtain ⟨w6, h5, ew6, hq⟩ := jw_b2_spec hq
    refine jw_callS (As := [.int v4]) (S := []) (v := some (.int w6)) dX12_jump_18 mt_X12_isLabel st_X12_isLabel lk_X12_224 (c_X12_isLabel ew6) rfl (by decide) (Nat.le_of_ble_eq_true rfl) rfl ?_
    rcases jw_if hq with ⟨c7, hq⟩ | ⟨c7, hq⟩
    · refine jw_if_eq_t (tgt := 28) dX12_jump_21 (by decide) c7 ?_
      exact l_X12_jump_b28  hq
    · refine jw_if_eq_f (tgt := 28) dX12_jump_21 (by decide) c7 ?_
      refine jw_iconst dX12_jump_24 (v := (1 : Int32)) (by decide) ?_
      refine jw_goto (tgt := 29) dX12_jump_25 (by decide) ?_
      exact l_X12_jump_b29  hq

theorem c_X12_jump {h : jw_H} {x0 : Nat} {x1 : Int32} {r : Int32} {h' : jw_H} (hq : f_X12_jump h x0 x1 = some (r, h')) : jw_Con (Cond.code yX12_jump cX12_jump 3 (some .int)) yX12_jump 15 [.ref x0, .int x1] h (.inl (some (.int r))) h' :=
  jw_con false (plainFor_of_name (by decide +kernel)) (fun z => nomatch z) (by simp [jw_ent, jw_sl0_nil, jw_sl0_int, jw_sl0_long, jw_sl0_ref, jw_sl0_rf, jw_sl0_scr, List.replicate]) (by simp [jw_sl0_nil, jw_sl0_int, jw_sl0_long, jw_sl0_ref, jw_sl0_rf, jw_sl0_scr]) (l_X12_jump hq)


/-! X12_steer -/
noncomputable def g_X12_steer_b92 (h : jw_H) (x0 : Nat) (x1 : Int32) (x2 : Int32) : Option (Int32 × jw_H) :=
 if x2 = (98 : Int32) then ((jw_rc h 12 (some x0)).bind fun a9 =>
 jw_b2 (f_X12_jump h a9 x1) fun w11 h10 =>
 some (w11, h10))
 else (if x2 = (84 : Int32) then ((jw_gI h 12 (some x0) 44).bind fun v3 =>
 if v3 = 0 then (some ((0 : Int32), h))
 else ((jw_pB h 12 (some x0) 44 (0 : Int32)).bind fun h5 =>
 (jw_rc h5 12 (some x0)).bind fun a6 =>
 jw_b2 (f_X12_jump h5 a6 x1) fun w8 h7 =>
 some (w8, h7)))
 else (some ((0 : Int32), h)))

noncomputable def g_X12_steer_b63 (h : jw_H) (x0 : Nat) (x1 : Int32) (x2 : Int32) : Option (Int32 × jw_H) :=
 if x2 = (78 : Int32) then ((jw_gI h 12 (some x0) 16).bind fun v2 =>
 (jw_gI h 12 (some x0) 12).bind fun v3 =>
 if v2 = v3 then (some ((1 : Int32), h))
 else ((jw_gI h 12 (some x0) 16).bind fun v5 =>
 (jw_pI h 12 (some x0) 16 (v5 + (1 : Int32))).bind fun h6 =>
 g_X12_steer_b92  h6 x0 x1 x2))
 else (g_X12_steer_b92  h x0 x1 x2)

noncomputable def g_X12_steer_b42 (h : jw_H) (x0 : Nat) (x1 : Int32) : Option (Int32 × jw_H) :=
 (jw_gR h 12 (some x0) 21).bind fun v1 =>
 (jw_ai h 20 v1 x1).bind fun v2 =>
 if v2 = (113 : Int32) then ((jw_gI h 12 (some x0) 22).bind fun v4 =>
 (jw_pI h 12 (some x0) 64 v4).bind fun h5 =>
 g_X12_steer_b63  h5 x0 x1 v2)
 else (g_X12_steer_b63  h x0 x1 v2)

noncomputable def f_X12_steer (h : jw_H) (x0 : Nat) (x1 : Int32) : Option (Int32 × jw_H) :=
 (jw_gI h 12 (some x0) 27).bind fun v1 =>
 if v1 ≤ 0 then (g_X12_steer_b42  h x0 x1)
 else ((jw_rc h 12 (some x0)).bind fun a3 =>
 jw_b2 (f_X12_range h a3) fun w5 h4 =>
 if w5 ≤ 0 then ((jw_gI h4 12 (some x0) 16).bind fun v7 =>
 (jw_gI h4 12 (some x0) 42).bind fun v8 =>
 if v7 < v8 then (some ((0 : Int32), h4))
 else ((jw_gI h4 12 (some x0) 16).bind fun v10 =>
 (jw_gI h4 12 (some x0) 43).bind fun v11 =>
 if v10 ≤ v11 then (g_X12_steer_b42  h4 x0 x1)
 else (some ((0 : Int32), h4))))
 else (some (w5, h4)))

set_option maxRecDepth 100000 in
set_option maxHeartbeats 4000000 in
theorem l_X12_steer_b92 {hi : jw_H} {h : jw_H} {x0 : Nat} {x1 : Int32} {x2 : Int32} {r : Int32} {h' : jw_H} (hq : g_X12_steer_b92  h x0 x1 x2 = some (r, h')) : jw_E 16 uX12_steer hi 92 [some (.ref x0), some (.int x1), some (.int x2)] [] h (.inl (some (.int r))) h' := by
  unfold g_X12_steer_b92 at hq
  refine jw_iload_n dX12_steer_92 rfl ?_
  refine jw_bipush dX12_steer_93 (v := (98 : Int32)) (by decide) ?_
  rcases jw_if hq with ⟨c1, hq⟩ | ⟨c1, hq⟩
  · refine jw_icmp_ne_f (tgt := 104) dX12_steer_95 (by decide) c1 ?_
    refine jw_aload_n dX12_steer_98 (o := (some x0)) rfl ?_
    refine jw_iload_n dX12_steer_99 rfl ?_
    obtain ⟨a9, ea9, hq⟩ := Option.bind_eq_some_iff.mp hq
    obtain ⟨eoa9, eta9⟩ := jw_rc_spec ea9
    obtain ⟨w11, h10, ew11, hq⟩ := jw_b2_spec hq
    refine jw_callV (As := [.int x1]) (S := []) (a := a9) (v := some (.int w11)) dX12_steer_100 mt_X12_jump in_X12_jump se_X12_jump lk_X12_509 (c_X12_jump ew11) eta9 (by decide) rfl rfl (by decide) (Nat.le_of_ble_eq_true rfl) (by cases eoa9; rfl) ?_
    cases hq
    exact jw_iret (ty := .int) dX12_steer_103 rfl rfl
  · refine jw_icmp_ne_t (tgt := 104) dX12_steer_95 (by decide) c1 ?_
    refine jw_iload_n dX12_steer_104 rfl ?_
    refine jw_bipush dX12_steer_105 (v := (84 : Int32)) (by decide) ?_
    rcases jw_if hq with ⟨c2, hq⟩ | ⟨c2, hq⟩
    · refine jw_icmp_ne_f (tgt := 128) dX12_steer_107 (by decide) c2 ?_
      refine jw_aload_n dX12_steer_110 (o := (some x0)) rfl ?_
      obtain ⟨v3, ev3, hq⟩ := Option.bind_eq_some_iff.mp hq
      refine jw_getI (o := (some x0)) dX12_steer_111 ev3 fl_X12_385 rfl ?_
      rcases jw_if hq with ⟨c4, hq⟩ | ⟨c4, hq⟩
      · refine jw_if_eq_t (tgt := 128) dX12_steer_114 (by decide) c4 ?_
        refine jw_iconst dX12_steer_128 (v := (0 : Int32)) (by decide) ?_
        cases hq
        exact jw_iret (ty := .int) dX12_steer_129 rfl rfl
      · refine jw_if_eq_f (tgt := 128) dX12_steer_114 (by decide) c4 ?_
        refine jw_aload_n dX12_steer_117 (o := (some x0)) rfl ?_
        refine jw_iconst dX12_steer_118 (v := (0 : Int32)) (by decide) ?_
        obtain ⟨h5, eh5, hq⟩ := Option.bind_eq_some_iff.mp hq
        refine jw_putB (o := (some x0)) dX12_steer_119 eh5 fl_X12_385 rfl rfl ?_
        refine jw_aload_n dX12_steer_122 (o := (some x0)) rfl ?_
        refine jw_iload_n dX12_steer_123 rfl ?_
        obtain ⟨a6, ea6, hq⟩ := Option.bind_eq_some_iff.mp hq
        obtain ⟨eoa6, eta6⟩ := jw_rc_spec ea6
        obtain ⟨w8, h7, ew8, hq⟩ := jw_b2_spec hq
        refine jw_callV (As := [.int x1]) (S := []) (a := a6) (v := some (.int w8)) dX12_steer_124 mt_X12_jump in_X12_jump se_X12_jump lk_X12_509 (c_X12_jump ew8) eta6 (by decide) rfl rfl (by decide) (Nat.le_of_ble_eq_true rfl) (by cases eoa6; rfl) ?_
        cases hq
        exact jw_iret (ty := .int) dX12_steer_127 rfl rfl
    · refine jw_icmp_ne_t (tgt := 128) dX12_steer_107 (by decide) c2 ?_
      refine jw_iconst dX12_steer_128 (v := (0 : Int32)) (by decide) ?_
      cases hq
      exact jw_iret (ty := .int) dX12_steer_129 rfl rfl

set_option maxRecDepth 100000 in
set_option maxHeartbeats 4000000 in
theorem l_X12_steer_b63 {hi : jw_H} {h : jw_H} {x0 : Nat} {x1 : Int32} {x2 : Int32} {r : Int32} {h' : jw_H} (hq : g_X12_steer_b63  h x0 x1 x2 = some (r, h')) : jw_E 16 uX12_steer hi 63 [some (.ref x0), some (.int x1), some (.int x2)] [] h (.inl (some (.int r))) h' := by
  unfold g_X12_steer_b63 at hq
  refine jw_iload_n dX12_steer_63 rfl ?_
  refine jw_bipush dX12_steer_64 (v := (78 : Int32)) (by decide) ?_
  rcases jw_if hq with ⟨c1, hq⟩ | ⟨c1, hq⟩
  · refine jw_icmp_ne_f (tgt := 92) dX12_steer_66 (by decide) c1 ?_
    refine jw_aload_n dX12_steer_69 (o := (some x0)) rfl ?_
    obtain ⟨v2, ev2, hq⟩ := Option.bind_eq_some_iff.mp hq
    refine jw_getI (o := (some x0)) dX12_steer_70 ev2 fl_X12_295 rfl ?_
    refine jw_aload_n dX12_steer_73 (o := (some x0)) rfl ?_
    obtain ⟨v3, ev3, hq⟩ := Option.bind_eq_some_iff.mp hq
    refine jw_getI (o := (some x0)) dX12_steer_74 ev3 fl_X12_124 rfl ?_
    rcases jw_if hq with ⟨c4, hq⟩ | ⟨c4, hq⟩
    · refine jw_icmp_ne_f (tgt := 82) dX12_steer_77 (by decide) c4 ?_
      refine jw_iconst dX12_steer_80 (v := (1 : Int32)) (by decide) ?_
      cases hq
      exact jw_iret (ty := .int) dX12_steer_81 rfl rfl
    · refine jw_icmp_ne_t (tgt := 82) dX12_steer_77 (by decide) c4 ?_
      refine jw_aload_n dX12_steer_82 (o := (some x0)) rfl ?_
      refine jw_dup dX12_steer_83 rfl ?_
      obtain ⟨v5, ev5, hq⟩ := Option.bind_eq_some_iff.mp hq
      refine jw_getI (o := (some x0)) dX12_steer_84 ev5 fl_X12_295 rfl ?_
      refine jw_iconst dX12_steer_87 (v := (1 : Int32)) (by decide) ?_
      refine jw_iadd dX12_steer_88 ?_
      obtain ⟨h6, eh6, hq⟩ := Option.bind_eq_some_iff.mp hq
      refine jw_putI (o := (some x0)) dX12_steer_89 eh6 fl_X12_295 rfl rfl ?_
      exact l_X12_steer_b92  hq
  · refine jw_icmp_ne_t (tgt := 92) dX12_steer_66 (by decide) c1 ?_
    exact l_X12_steer_b92  hq

set_option maxRecDepth 100000 in
set_option maxHeartbeats 4000000 in
theorem l_X12_steer_b42 {hi : jw_H} {h : jw_H} {x0 : Nat} {x1 : Int32} {r : Int32} {h' : jw_H} (hq : g_X12_steer_b42  h x0 x1 = some (r, h')) : jw_E 16 uX12_steer hi 42 [some (.ref x0), some (.int x1), none] [] h (.inl (some (.int r))) h' := by
  unfold g_X12_steer_b42 at hq
  refine jw_aload_n dX12_steer_42 (o := (some x0)) rfl ?_
  obtain ⟨v1, ev1, hq⟩ := Option.bind_eq_some_iff.mp hq
  refine jw_getR (o := (some x0)) dX12_steer_43 ev1 fl_X12_44 rfl ?_
  refine jw_iload_n dX12_steer_46 rfl ?_
  obtain ⟨v2, ev2, hq⟩ := Option.bind_eq_some_iff.mp hq
  refine jw_iald (o := v1) dX12_steer_47 ev2 ?_
  refine jw_istore_n (L' := [some (.ref x0), some (.int x1), some (.int v2)]) dX12_steer_48 (Nat.le_of_ble_eq_true rfl) rfl ?_
  refine jw_iload_n dX12_steer_49 rfl ?_
  refine jw_bipush dX12_steer_50 (v := (113 : Int32)) (by decide) ?_
  rcases jw_if hq with ⟨c3, hq⟩ | ⟨c3, hq⟩
  · refine jw_icmp_ne_f (tgt := 63) dX12_steer_52 (by decide) c3 ?_
    refine jw_aload_n dX12_steer_55 (o := (some x0)) rfl ?_
    refine jw_aload_n dX12_steer_56 (o := (some x0)) rfl ?_
    obtain ⟨v4, ev4, hq⟩ := Option.bind_eq_some_iff.mp hq
    refine jw_getI (o := (some x0)) dX12_steer_57 ev4 fl_X12_146 rfl ?_
    obtain ⟨h5, eh5, hq⟩ := Option.bind_eq_some_iff.mp hq
    refine jw_putI (o := (some x0)) dX12_steer_60 eh5 fl_X12_506 rfl rfl ?_
    exact l_X12_steer_b63  hq
  · refine jw_icmp_ne_t (tgt := 63) dX12_steer_52 (by decide) c3 ?_
    exact l_X12_steer_b63  hq

set_option maxRecDepth 100000 in
set_option maxHeartbeats 4000000 in
theorem l_X12_steer {hi : jw_H} {h : jw_H} {x0 : Nat} {x1 : Int32} {r : Int32} {h' : jw_H} (hq : f_X12_steer  h x0 x1 = some (r, h')) : jw_E 16 uX12_steer hi 0 [some (.ref x0), some (.int x1), none] [] h (.inl (some (.int r))) h' := by
  unfold f_X12_steer at hq
  refine jw_aload_n dX12_steer_0 (o := (some x0)) rfl ?_
  obtain ⟨v1, ev1, hq⟩ := Option.bind_eq_some_iff.mp hq
  refine jw_getI (o := (some x0)) dX12_steer_1 ev1 fl_X12_203 rfl ?_
  rcases jw_if hq with ⟨c2, hq⟩ | ⟨c2, hq⟩
  · refine jw_if_le_t (tgt := 42) dX12_steer_4 (by decide) c2 ?_
    exact l_X12_steer_b42  hq
  · refine jw_if_le_f (tgt := 42) dX12_steer_4 (by decide) c2 ?_
    refine jw_aload_n dX12_steer_7 (o := (some x0)) rfl ?_
    obtain ⟨a3, ea3, hq⟩ := Option.bind_eq_some_iff.mp hq
    obtain ⟨eoa3, eta3⟩ := jw_rc_spec ea3
    obtain ⟨w5, h4, ew5, hq⟩ := jw_b2_spec hq
    refine jw_callV (As := []) (S := []) (a := a3) (v := some (.int w5)) dX12_steer_8 mt_X12_range in_X12_range se_X12_range lk_X12_461 (c_X12_range ew5) eta3 (by decide) rfl rfl (by decide) (Nat.le_of_ble_eq_true rfl) (by cases eoa3; rfl) ?_
    refine jw_istore_n (L' := [some (.ref x0), some (.int x1), some (.int w5)]) dX12_steer_11 (Nat.le_of_ble_eq_true rfl) rfl ?_
    refine jw_iload_n dX12_steer_12 rfl ?_
    rcases jw_if hq with ⟨c6, hq⟩ | ⟨c6, hq⟩
    · refine jw_if_le_t (tgt := 18) dX12_steer_13 (by decide) c6 ?_
      refine jw_aload_n dX12_steer_18 (o := (some x0)) rfl ?_
      obtain ⟨v7, ev7, hq⟩ := Option.bind_eq_some_iff.mp hq
      refine jw_getI (o := (some x0)) dX12_steer_19 ev7 fl_X12_295 rfl ?_
      refine jw_aload_n dX12_steer_22 (o := (some x0)) rfl ?_
      obtain ⟨v8, ev8, hq⟩ := Option.bind_eq_some_iff.mp hq
      refine jw_getI (o := (some x0)) dX12_steer_23 ev8 fl_X12_317 rfl ?_
      rcases jw_if hq with ⟨c9, hq⟩ | ⟨c9, hq⟩
      · refine jw_icmp_lt_t (tgt := 40) dX12_steer_26 (by decide) c9 ?_
        refine jw_iconst dX12_steer_40 (v := (0 : Int32)) (by decide) ?_
        cases hq
        exact jw_iret (ty := .int) dX12_steer_41 rfl rfl
      · refine jw_icmp_lt_f (tgt := 40) dX12_steer_26 (by decide) c9 ?_
        refine jw_aload_n dX12_steer_29 (o := (some x0)) rfl ?_
        obtain ⟨v10, ev10, hq⟩ := Option.bind_eq_some_iff.mp hq
        refine jw_getI (o := (some x0)) dX12_steer_30 ev10 fl_X12_295 rfl ?_
        refine jw_aload_n dX12_steer_33 (o := (some x0)) rfl ?_
        obtain ⟨v11, ev11, hq⟩ := Option.bind_eq_some_iff.mp hq
        refine jw_getI (o := (some x0)) dX12_steer_34 ev11 fl_X12_320 rfl ?_
        rcases jw_if hq with ⟨c12, hq⟩ | ⟨c12, hq⟩
        · refine jw_icmp_le_t (tgt := 42) dX12_steer_37 (by decide) c12 ?_
          refine jw_forget [true, true, false] (L' := [some (.ref x0), some (.int x1), none]) rfl ?_
          exact l_X12_steer_b42  hq
        · refine jw_icmp_le_f (tgt := 42) dX12_steer_37 (by decide) c12 ?_
          refine jw_iconst dX12_steer_40 (v := (0 : Int32)) (by decide) ?_
          cases hq
          exact jw_iret (ty := .int) dX12_steer_41 rfl rfl
    · refine jw_if_le_f (tgt := 18) dX12_steer_13 (by decide) c6 ?_
      refine jw_iload_n dX12_steer_16 rfl ?_
      cases hq
      exact jw_iret (ty := .int) dX12_steer_17 rfl rfl

theorem c_X12_steer {h : jw_H} {x0 : Nat} {x1 : Int32} {r : Int32} {h' : jw_H} (hq : f_X12_steer h x0 x1 = some (r, h')) : jw_Con (Cond.code yX12_steer cX12_steer 3 (some .int)) yX12_steer 16 [.ref x0, .int x1] h (.inl (some (.int r))) h' :=
  jw_con false (plainFor_of_name (by decide +kernel)) (fun z => nomatch z) (by simp [jw_ent, jw_sl0_nil, jw_sl0_int, jw_sl0_long, jw_sl0_ref, jw_sl0_rf, jw_sl0_scr, List.replicate]) (by simp [jw_sl0_nil, jw_sl0_int, jw_sl0_long, jw_sl0_ref, jw_sl0_rf, jw_sl0_scr]) (l_X12_steer hq)


/-! X12_doOrder -/
noncomputable def g_X12_doOrder_b84 (h : jw_H) (x0 : Nat) (x3 : Int32) : Option (Int32 × jw_H) :=
 (jw_rc h 12 (some x0)).bind fun a1 =>
 jw_b2 (f_X12_steer h a1 x3) fun w3 h2 =>
 some (w3, h2)

noncomputable def g_X12_doOrder_b138 (h : jw_H) (t0 : Int32) : Option (Int32 × jw_H) :=
 some (t0, h)

noncomputable def g_X12_doOrder_b125 (h : jw_H) (x0 : Nat) (x3 : Int32) : Option (Int32 × jw_H) :=
 (jw_rc h 12 (some x0)).bind fun a1 =>
 jw_b2 (f_X12_each h a1 x3) fun w3 h2 =>
 g_X12_doOrder_b138  h2 w3

noncomputable def g_X12_doOrder_b26 (h : jw_H) (x0 : Nat) (x1 : Int32) (t0 : Nat) (t1 : Int32) : Option (Int32 × jw_H) :=
 (jw_pI h 12 (some t0) 64 t1).bind fun h1 =>
 (jw_rc h1 12 (some x0)).bind fun a2 =>
 jw_b2 (f_X12_readWhere h1 a2 x1) fun w4 h3 =>
 (jw_gI h3 12 (some x0) 30).bind fun v5 =>
 (jw_gR h3 12 (some x0) 21).bind fun v6 =>
 (jw_ai h3 20 v6 v5).bind fun v7 =>
 if v7 = (58 : Int32) then (some ((0 : Int32), h3))
 else (if v7 = (113 : Int32) then (g_X12_doOrder_b84  h3 x0 v5)
 else (if v7 = (98 : Int32) then (g_X12_doOrder_b84  h3 x0 v5)
 else (if v7 = (84 : Int32) then (g_X12_doOrder_b84  h3 x0 v5)
 else (if v7 = (78 : Int32) then (g_X12_doOrder_b84  h3 x0 v5)
 else ((jw_rc h3 12 (some x0)).bind fun a13 =>
 jw_b2 (f_X12_range h3 a13) fun w15 h14 =>
 if w15 ≤ 0 then (if v7 = (103 : Int32) then (g_X12_doOrder_b125  h14 x0 v5)
 else (if v7 = (71 : Int32) then (g_X12_doOrder_b125  h14 x0 v5)
 else (if v7 = (123 : Int32) then (g_X12_doOrder_b125  h14 x0 v5)
 else ((jw_rc h14 12 (some x0)).bind fun a20 =>
 jw_b2 (f_X12_act h14 a20 v5) fun w22 h21 =>
 g_X12_doOrder_b138  h21 w22))))
 else (some (w15, h14)))))))

noncomputable def f_X12_doOrder (h : jw_H) (x0 : Nat) (x1 : Int32) : Option (Int32 × jw_H) :=
 (jw_rc h 12 (some x0)).bind fun a1 =>
 jw_b2 (f_X12_endOf h a1 x1 (0 : Int32)) fun w3 h2 =>
 (jw_gI h2 12 (some x0) 22).bind fun v4 =>
 if v4 ≤ w3 then ((jw_gI h2 12 (some x0) 22).bind fun v6 =>
 g_X12_doOrder_b26  h2 x0 x1 x0 v6)
 else (g_X12_doOrder_b26  h2 x0 x1 x0 (w3 + (1 : Int32)))

set_option maxRecDepth 100000 in
set_option maxHeartbeats 4000000 in
theorem l_X12_doOrder_b84 {hi : jw_H} {h : jw_H} {x0 : Nat} {x3 : Int32} {r : Int32} {h' : jw_H} (hq : g_X12_doOrder_b84  h x0 x3 = some (r, h')) : jw_E 17 uX12_doOrder hi 84 [some (.ref x0), none, none, some (.int x3), none, none] [] h (.inl (some (.int r))) h' := by
  unfold g_X12_doOrder_b84 at hq
  refine jw_aload_n dX12_doOrder_84 (o := (some x0)) rfl ?_
  refine jw_iload_n dX12_doOrder_85 rfl ?_
  obtain ⟨a1, ea1, hq⟩ := Option.bind_eq_some_iff.mp hq
  obtain ⟨eoa1, eta1⟩ := jw_rc_spec ea1
  obtain ⟨w3, h2, ew3, hq⟩ := jw_b2_spec hq
  refine jw_callV (As := [.int x3]) (S := []) (a := a1) (v := some (.int w3)) dX12_doOrder_86 mt_X12_steer in_X12_steer se_X12_steer lk_X12_512 (c_X12_steer ew3) eta1 (by decide) rfl rfl (by decide) (Nat.le_of_ble_eq_true rfl) (by cases eoa1; rfl) ?_
  cases hq
  exact jw_iret (ty := .int) dX12_doOrder_89 rfl rfl

set_option maxRecDepth 100000 in
set_option maxHeartbeats 4000000 in
theorem l_X12_doOrder_b138 {hi : jw_H} {h : jw_H} {t0 : Int32} {r : Int32} {h' : jw_H} (hq : g_X12_doOrder_b138  h t0 = some (r, h')) : jw_E 17 uX12_doOrder hi 138 [none, none, none, none, none, none] [.int t0] h (.inl (some (.int r))) h' := by
  unfold g_X12_doOrder_b138 at hq
  cases hq
  exact jw_iret (ty := .int) dX12_doOrder_138 rfl rfl

set_option maxRecDepth 100000 in
set_option maxHeartbeats 4000000 in
theorem l_X12_doOrder_b125 {hi : jw_H} {h : jw_H} {x0 : Nat} {x3 : Int32} {r : Int32} {h' : jw_H} (hq : g_X12_doOrder_b125  h x0 x3 = some (r, h')) : jw_E 17 uX12_doOrder hi 125 [some (.ref x0), none, none, some (.int x3), none, none] [] h (.inl (some (.int r))) h' := by
  unfold g_X12_doOrder_b125 at hq
  refine jw_aload_n dX12_doOrder_125 (o := (some x0)) rfl ?_
  refine jw_iload_n dX12_doOrder_126 rfl ?_
  obtain ⟨a1, ea1, hq⟩ := Option.bind_eq_some_iff.mp hq
  obtain ⟨eoa1, eta1⟩ := jw_rc_spec ea1
  obtain ⟨w3, h2, ew3, hq⟩ := jw_b2_spec hq
  refine jw_callV (As := [.int x3]) (S := []) (a := a1) (v := some (.int w3)) dX12_doOrder_127 mt_X12_each in_X12_each se_X12_each lk_X12_515 (c_X12_each ew3) eta1 (by decide) rfl rfl (by decide) (Nat.le_of_ble_eq_true rfl) (by cases eoa1; rfl) ?_
  refine jw_goto (tgt := 138) dX12_doOrder_130 (by decide) ?_
  refine jw_forget [false, true, true, false, true, true] (L' := [none, none, none, none, none, none]) rfl ?_
  exact l_X12_doOrder_b138  hq

set_option maxRecDepth 100000 in
set_option maxHeartbeats 4000000 in
theorem l_X12_doOrder_b26 {hi : jw_H} {h : jw_H} {x0 : Nat} {x1 : Int32} {t0 : Nat} {t1 : Int32} {r : Int32} {h' : jw_H} (hq : g_X12_doOrder_b26  h x0 x1 t0 t1 = some (r, h')) : jw_E 17 uX12_doOrder hi 26 [some (.ref x0), some (.int x1), none, none, none, none] [.int t1, .ref t0] h (.inl (some (.int r))) h' := by
  unfold g_X12_doOrder_b26 at hq
  obtain ⟨h1, eh1, hq⟩ := Option.bind_eq_some_iff.mp hq
  refine jw_putI (o := (some t0)) dX12_doOrder_26 eh1 fl_X12_506 rfl rfl ?_
  refine jw_aload_n dX12_doOrder_29 (o := (some x0)) rfl ?_
  refine jw_iload_n dX12_doOrder_30 rfl ?_
  obtain ⟨a2, ea2, hq⟩ := Option.bind_eq_some_iff.mp hq
  obtain ⟨eoa2, eta2⟩ := jw_rc_spec ea2
  obtain ⟨w4, h3, ew4, hq⟩ := jw_b2_spec hq
  refine jw_callV (As := [.int x1]) (S := []) (a := a2) (v := none) dX12_doOrder_31 mt_X12_readWhere in_X12_readWhere se_X12_readWhere lk_X12_458 (c_X12_readWhere ew4) eta2 (by decide) rfl rfl (by decide) (Nat.le_of_ble_eq_true rfl) (by cases eoa2; rfl) ?_
  refine jw_aload_n dX12_doOrder_34 (o := (some x0)) rfl ?_
  obtain ⟨v5, ev5, hq⟩ := Option.bind_eq_some_iff.mp hq
  refine jw_getI (o := (some x0)) dX12_doOrder_35 ev5 fl_X12_218 rfl ?_
  refine jw_istore_n (L' := [some (.ref x0), some (.int x1), none, some (.int v5), none, none]) dX12_doOrder_38 (Nat.le_of_ble_eq_true rfl) rfl ?_
  refine jw_aload_n dX12_doOrder_39 (o := (some x0)) rfl ?_
  obtain ⟨v6, ev6, hq⟩ := Option.bind_eq_some_iff.mp hq
  refine jw_getR (o := (some x0)) dX12_doOrder_40 ev6 fl_X12_44 rfl ?_
  refine jw_iload_n dX12_doOrder_43 rfl ?_
  obtain ⟨v7, ev7, hq⟩ := Option.bind_eq_some_iff.mp hq
  refine jw_iald (o := v6) dX12_doOrder_44 ev7 ?_
  refine jw_istore (L' := [some (.ref x0), some (.int x1), none, some (.int v5), some (.int v7), none]) dX12_doOrder_45 (Nat.le_of_ble_eq_true rfl) rfl ?_
  refine jw_iload dX12_doOrder_47 rfl ?_
  refine jw_bipush dX12_doOrder_49 (v := (58 : Int32)) (by decide) ?_
  rcases jw_if hq with ⟨c8, hq⟩ | ⟨c8, hq⟩
  · refine jw_icmp_ne_f (tgt := 56) dX12_doOrder_51 (by decide) c8 ?_
    refine jw_iconst dX12_doOrder_54 (v := (0 : Int32)) (by decide) ?_
    cases hq
    exact jw_iret (ty := .int) dX12_doOrder_55 rfl rfl
  · refine jw_icmp_ne_t (tgt := 56) dX12_doOrder_51 (by decide) c8 ?_
    refine jw_iload dX12_doOrder_56 rfl ?_
    refine jw_bipush dX12_doOrder_58 (v := (113 : Int32)) (by decide) ?_
    rcases jw_if hq with ⟨c9, hq⟩ | ⟨c9, hq⟩
    · refine jw_icmp_eq_t (tgt := 84) dX12_doOrder_60 (by decide) c9 ?_
      refine jw_forget [true, false, true, true, false, true] (L' := [some (.ref x0), none, none, some (.int v5), none, none]) rfl ?_
      exact l_X12_doOrder_b84  hq
    · refine jw_icmp_eq_f (tgt := 84) dX12_doOrder_60 (by decide) c9 ?_
      refine jw_iload dX12_doOrder_63 rfl ?_
      refine jw_bipush dX12_doOrder_65 (v := (98 : Int32)) (by decide) ?_
      rcases jw_if hq with ⟨c10, hq⟩ | ⟨c10, hq⟩
      · refine jw_icmp_eq_t (tgt := 84) dX12_doOrder_67 (by decide) c10 ?_
        refine jw_forget [true, false, true, true, false, true] (L' := [some (.ref x0), none, none, some (.int v5), none, none]) rfl ?_
        exact l_X12_doOrder_b84  hq
      · refine jw_icmp_eq_f (tgt := 84) dX12_doOrder_67 (by decide) c10 ?_
        refine jw_iload dX12_doOrder_70 rfl ?_
        refine jw_bipush dX12_doOrder_72 (v := (84 : Int32)) (by decide) ?_
        rcases jw_if hq with ⟨c11, hq⟩ | ⟨c11, hq⟩
        · refine jw_icmp_eq_t (tgt := 84) dX12_doOrder_74 (by decide) c11 ?_
          refine jw_forget [true, false, true, true, false, true] (L' := [some (.ref x0), none, none, some (.int v5), none, none]) rfl ?_
          exact l_X12_doOrder_b84  hq
        · refine jw_icmp_eq_f (tgt := 84) dX12_doOrder_74 (by decide) c11 ?_
          refine jw_iload dX12_doOrder_77 rfl ?_
          refine jw_bipush dX12_doOrder_79 (v := (78 : Int32)) (by decide) ?_
          rcases jw_if hq with ⟨c12, hq⟩ | ⟨c12, hq⟩
          · refine jw_icmp_ne_f (tgt := 90) dX12_doOrder_81 (by decide) c12 ?_
            refine jw_forget [true, false, true, true, false, true] (L' := [some (.ref x0), none, none, some (.int v5), none, none]) rfl ?_
            exact l_X12_doOrder_b84  hq
          · refine jw_icmp_ne_t (tgt := 90) dX12_doOrder_81 (by decide) c12 ?_
            refine jw_aload_n dX12_doOrder_90 (o := (some x0)) rfl ?_
            obtain ⟨a13, ea13, hq⟩ := Option.bind_eq_some_iff.mp hq
            obtain ⟨eoa13, eta13⟩ := jw_rc_spec ea13
            obtain ⟨w15, h14, ew15, hq⟩ := jw_b2_spec hq
            refine jw_callV (As := []) (S := []) (a := a13) (v := some (.int w15)) dX12_doOrder_91 mt_X12_range in_X12_range se_X12_range lk_X12_461 (c_X12_range ew15) eta13 (by decide) rfl rfl (by decide) (Nat.le_of_ble_eq_true rfl) (by cases eoa13; rfl) ?_
            refine jw_istore (L' := [some (.ref x0), some (.int x1), none, some (.int v5), some (.int v7), some (.int w15)]) dX12_doOrder_94 (Nat.le_of_ble_eq_true rfl) rfl ?_
            refine jw_iload dX12_doOrder_96 rfl ?_
            rcases jw_if hq with ⟨c16, hq⟩ | ⟨c16, hq⟩
            · refine jw_if_le_t (tgt := 104) dX12_doOrder_98 (by decide) c16 ?_
              refine jw_iload dX12_doOrder_104 rfl ?_
              refine jw_bipush dX12_doOrder_106 (v := (103 : Int32)) (by decide) ?_
              rcases jw_if hq with ⟨c17, hq⟩ | ⟨c17, hq⟩
              · refine jw_icmp_eq_t (tgt := 125) dX12_doOrder_108 (by decide) c17 ?_
                refine jw_forget [true, false, true, true, false, false] (L' := [some (.ref x0), none, none, some (.int v5), none, none]) rfl ?_
                exact l_X12_doOrder_b125  hq
              · refine jw_icmp_eq_f (tgt := 125) dX12_doOrder_108 (by decide) c17 ?_
                refine jw_iload dX12_doOrder_111 rfl ?_
                refine jw_bipush dX12_doOrder_113 (v := (71 : Int32)) (by decide) ?_
                rcases jw_if hq with ⟨c18, hq⟩ | ⟨c18, hq⟩
                · refine jw_icmp_eq_t (tgt := 125) dX12_doOrder_115 (by decide) c18 ?_
                  refine jw_forget [true, false, true, true, false, false] (L' := [some (.ref x0), none, none, some (.int v5), none, none]) rfl ?_
                  exact l_X12_doOrder_b125  hq
                · refine jw_icmp_eq_f (tgt := 125) dX12_doOrder_115 (by decide) c18 ?_
                  refine jw_iload dX12_doOrder_118 rfl ?_
                  refine jw_bipush dX12_doOrder_120 (v := (123 : Int32)) (by decide) ?_
                  rcases jw_if hq with ⟨c19, hq⟩ | ⟨c19, hq⟩
                  · refine jw_icmp_ne_f (tgt := 133) dX12_doOrder_122 (by decide) c19 ?_
                    refine jw_forget [true, false, true, true, false, false] (L' := [some (.ref x0), none, none, some (.int v5), none, none]) rfl ?_
                    exact l_X12_doOrder_b125  hq
                  · refine jw_icmp_ne_t (tgt := 133) dX12_doOrder_122 (by decide) c19 ?_
                    refine jw_aload_n dX12_doOrder_133 (o := (some x0)) rfl ?_
                    refine jw_iload_n dX12_doOrder_134 rfl ?_
                    obtain ⟨a20, ea20, hq⟩ := Option.bind_eq_some_iff.mp hq
                    obtain ⟨eoa20, eta20⟩ := jw_rc_spec ea20
                    obtain ⟨w22, h21, ew22, hq⟩ := jw_b2_spec hq
                    refine jw_callV (As := [.int v5]) (S := []) (a := a20) (v := some (.int w22)) dX12_doOrder_135 mt_X12_act in_X12_act se_X12_act lk_X12_464 (c_X12_act ew22) eta20 (by decide) rfl rfl (by decide) (Nat.le_of_ble_eq_true rfl) (by cases eoa20; rfl) ?_
                    refine jw_forget [false, false, true, false, false, false] (L' := [none, none, none, none, none, none]) rfl ?_
                    exact l_X12_doOrder_b138  hq
            · refine jw_if_le_f (tgt := 104) dX12_doOrder_98 (by decide) c16 ?_
              refine jw_iload dX12_doOrder_101 rfl ?_
              cases hq
              exact jw_iret (ty := .int) dX12_doOrder_103 rfl rfl

set_option maxRecDepth 100000 in
set_option maxHeartbeats 4000000 in
theorem l_X12_doOrder {hi : jw_H} {h : jw_H} {x0 : Nat} {x1 : Int32} {r : Int32} {h' : jw_H} (hq : f_X12_doOrder  h x0 x1 = some (r, h')) : jw_E 17 uX12_doOrder hi 0 [some (.ref x0), some (.int x1), none, none, none, none] [] h (.inl (some (.int r))) h' := by
  unfold f_X12_doOrder at hq
  refine jw_aload_n dX12_doOrder_0 (o := (some x0)) rfl ?_
  refine jw_iload_n dX12_doOrder_1 rfl ?_
  refine jw_iconst dX12_doOrder_2 (v := (0 : Int32)) (by decide) ?_
  obtain ⟨a1, ea1, hq⟩ := Option.bind_eq_some_iff.mp hq
  obtain ⟨eoa1, eta1⟩ := jw_rc_spec ea1
  obtain ⟨w3, h2, ew3, hq⟩ := jw_b2_spec hq
  refine jw_callV (As := [.int x1, .int (0 : Int32)]) (S := []) (a := a1) (v := some (.int w3)) dX12_doOrder_3 mt_X12_endOf in_X12_endOf se_X12_endOf lk_X12_470 (c_X12_endOf ew3) eta1 (by decide) rfl rfl (by decide) (Nat.le_of_ble_eq_true rfl) (by cases eoa1; rfl) ?_
  refine jw_istore_n (L' := [some (.ref x0), some (.int x1), some (.int w3), none, none, none]) dX12_doOrder_6 (Nat.le_of_ble_eq_true rfl) rfl ?_
  refine jw_aload_n dX12_doOrder_7 (o := (some x0)) rfl ?_
  refine jw_iload_n dX12_doOrder_8 rfl ?_
  refine jw_aload_n dX12_doOrder_9 (o := (some x0)) rfl ?_
  obtain ⟨v4, ev4, hq⟩ := Option.bind_eq_some_iff.mp hq
  refine jw_getI (o := (some x0)) dX12_doOrder_10 ev4 fl_X12_146 rfl ?_
  rcases jw_if hq with ⟨c5, hq⟩ | ⟨c5, hq⟩
  · refine jw_icmp_ge_t (tgt := 22) dX12_doOrder_13 (by decide) c5 ?_
    refine jw_aload_n dX12_doOrder_22 (o := (some x0)) rfl ?_
    obtain ⟨v6, ev6, hq⟩ := Option.bind_eq_some_iff.mp hq
    refine jw_getI (o := (some x0)) dX12_doOrder_23 ev6 fl_X12_146 rfl ?_
    refine jw_forget [true, true, false, true, true, true] (L' := [some (.ref x0), some (.int x1), none, none, none, none]) rfl ?_
    exact l_X12_doOrder_b26  hq
  · refine jw_icmp_ge_f (tgt := 22) dX12_doOrder_13 (by decide) c5 ?_
    refine jw_iload_n dX12_doOrder_16 rfl ?_
    refine jw_iconst dX12_doOrder_17 (v := (1 : Int32)) (by decide) ?_
    refine jw_iadd dX12_doOrder_18 ?_
    refine jw_goto (tgt := 26) dX12_doOrder_19 (by decide) ?_
    refine jw_forget [true, true, false, true, true, true] (L' := [some (.ref x0), some (.int x1), none, none, none, none]) rfl ?_
    exact l_X12_doOrder_b26  hq

theorem c_X12_doOrder {h : jw_H} {x0 : Nat} {x1 : Int32} {r : Int32} {h' : jw_H} (hq : f_X12_doOrder h x0 x1 = some (r, h')) : jw_Con (Cond.code yX12_doOrder cX12_doOrder 6 (some .int)) yX12_doOrder 17 [.ref x0, .int x1] h (.inl (some (.int r))) h' :=
  jw_con false (plainFor_of_name (by decide +kernel)) (fun z => nomatch z) (by simp [jw_ent, jw_sl0_nil, jw_sl0_int, jw_sl0_long, jw_sl0_ref, jw_sl0_rf, jw_sl0_scr, List.replicate]) (by simp [jw_sl0_nil, jw_sl0_int, jw_sl0_long, jw_sl0_ref, jw_sl0_rf, jw_sl0_scr]) (l_X12_doOrder hq)


/-! X12_isDeed -/
noncomputable def g_X12_isDeed_b44 (h : jw_H) (t0 : Int32) : Option (Int32 × jw_H) :=
 (jw_rb t0).bind fun v1 =>
 some (t0, h)

noncomputable def g_X12_isDeed_b43 (h : jw_H)  : Option (Int32 × jw_H) :=
 g_X12_isDeed_b44  h (0 : Int32)

noncomputable def f_X12_isDeed (h : jw_H) (x0 : Nat) (x1 : Int32) : Option (Int32 × jw_H) :=
 (jw_rc h 12 (some x0)).bind fun a1 =>
 jw_b2 (f_X12_readWhere h a1 x1) fun w3 h2 =>
 (jw_gR h2 12 (some x0) 21).bind fun v4 =>
 (jw_gI h2 12 (some x0) 30).bind fun v5 =>
 (jw_ai h2 20 v4 v5).bind fun v6 =>
 if v6 = (58 : Int32) then (g_X12_isDeed_b43  h2 )
 else (if v6 = (98 : Int32) then (g_X12_isDeed_b43  h2 )
 else (if v6 = (84 : Int32) then (g_X12_isDeed_b43  h2 )
 else (if v6 = (113 : Int32) then (g_X12_isDeed_b43  h2 )
 else (g_X12_isDeed_b44  h2 (1 : Int32)))))

set_option maxRecDepth 100000 in
set_option maxHeartbeats 4000000 in
theorem l_X12_isDeed_b44 {hi : jw_H} {h : jw_H} {t0 : Int32} {r : Int32} {h' : jw_H} (hq : g_X12_isDeed_b44  h t0 = some (r, h')) : jw_E 11 uX12_isDeed hi 44 [none, none, none] [.int t0] h (.inl (some (.int r))) h' := by
  unfold g_X12_isDeed_b44 at hq
  obtain ⟨v1, ev1, hq⟩ := Option.bind_eq_some_iff.mp hq
  cases hq
  exact jw_iret (ty := .boolean) dX12_isDeed_44 rfl (jw_rb_spec ev1)

set_option maxRecDepth 100000 in
set_option maxHeartbeats 4000000 in
theorem l_X12_isDeed_b43 {hi : jw_H} {h : jw_H}  {r : Int32} {h' : jw_H} (hq : g_X12_isDeed_b43  h  = some (r, h')) : jw_E 11 uX12_isDeed hi 43 [none, none, none] [] h (.inl (some (.int r))) h' := by
  unfold g_X12_isDeed_b43 at hq
  refine jw_iconst dX12_isDeed_43 (v := (0 : Int32)) (by decide) ?_
  exact l_X12_isDeed_b44  hq

set_option maxRecDepth 100000 in
set_option maxHeartbeats 4000000 in
theorem l_X12_isDeed {hi : jw_H} {h : jw_H} {x0 : Nat} {x1 : Int32} {r : Int32} {h' : jw_H} (hq : f_X12_isDeed  h x0 x1 = some (r, h')) : jw_E 11 uX12_isDeed hi 0 [some (.ref x0), some (.int x1), none] [] h (.inl (some (.int r))) h' := by
  unfold f_X12_isDeed at hq
  refine jw_aload_n dX12_isDeed_0 (o := (some x0)) rfl ?_
  refine jw_iload_n dX12_isDeed_1 rfl ?_
  obtain ⟨a1, ea1, hq⟩ := Option.bind_eq_some_iff.mp hq
  obtain ⟨eoa1, eta1⟩ := jw_rc_spec ea1
  obtain ⟨w3, h2, ew3, hq⟩ := jw_b2_spec hq
  refine jw_callV (As := [.int x1]) (S := []) (a := a1) (v := none) dX12_isDeed_2 mt_X12_readWhere in_X12_readWhere se_X12_readWhere lk_X12_458 (c_X12_readWhere ew3) eta1 (by decide) rfl rfl (by decide) (Nat.le_of_ble_eq_true rfl) (by cases eoa1; rfl) ?_
  refine jw_aload_n dX12_isDeed_5 (o := (some x0)) rfl ?_
  obtain ⟨v4, ev4, hq⟩ := Option.bind_eq_some_iff.mp hq
  refine jw_getR (o := (some x0)) dX12_isDeed_6 ev4 fl_X12_44 rfl ?_
  refine jw_aload_n dX12_isDeed_9 (o := (some x0)) rfl ?_
  obtain ⟨v5, ev5, hq⟩ := Option.bind_eq_some_iff.mp hq
  refine jw_getI (o := (some x0)) dX12_isDeed_10 ev5 fl_X12_218 rfl ?_
  obtain ⟨v6, ev6, hq⟩ := Option.bind_eq_some_iff.mp hq
  refine jw_iald (o := v4) dX12_isDeed_13 ev6 ?_
  refine jw_istore_n (L' := [some (.ref x0), some (.int x1), some (.int v6)]) dX12_isDeed_14 (Nat.le_of_ble_eq_true rfl) rfl ?_
  refine jw_iload_n dX12_isDeed_15 rfl ?_
  refine jw_bipush dX12_isDeed_16 (v := (58 : Int32)) (by decide) ?_
  rcases jw_if hq with ⟨c7, hq⟩ | ⟨c7, hq⟩
  · refine jw_icmp_eq_t (tgt := 43) dX12_isDeed_18 (by decide) c7 ?_
    refine jw_forget [false, false, false] (L' := [none, none, none]) rfl ?_
    exact l_X12_isDeed_b43  hq
  · refine jw_icmp_eq_f (tgt := 43) dX12_isDeed_18 (by decide) c7 ?_
    refine jw_iload_n dX12_isDeed_21 rfl ?_
    refine jw_bipush dX12_isDeed_22 (v := (98 : Int32)) (by decide) ?_
    rcases jw_if hq with ⟨c8, hq⟩ | ⟨c8, hq⟩
    · refine jw_icmp_eq_t (tgt := 43) dX12_isDeed_24 (by decide) c8 ?_
      refine jw_forget [false, false, false] (L' := [none, none, none]) rfl ?_
      exact l_X12_isDeed_b43  hq
    · refine jw_icmp_eq_f (tgt := 43) dX12_isDeed_24 (by decide) c8 ?_
      refine jw_iload_n dX12_isDeed_27 rfl ?_
      refine jw_bipush dX12_isDeed_28 (v := (84 : Int32)) (by decide) ?_
      rcases jw_if hq with ⟨c9, hq⟩ | ⟨c9, hq⟩
      · refine jw_icmp_eq_t (tgt := 43) dX12_isDeed_30 (by decide) c9 ?_
        refine jw_forget [false, false, false] (L' := [none, none, none]) rfl ?_
        exact l_X12_isDeed_b43  hq
      · refine jw_icmp_eq_f (tgt := 43) dX12_isDeed_30 (by decide) c9 ?_
        refine jw_iload_n dX12_isDeed_33 rfl ?_
        refine jw_bipush dX12_isDeed_34 (v := (113 : Int32)) (by decide) ?_
        rcases jw_if hq with ⟨c10, hq⟩ | ⟨c10, hq⟩
        · refine jw_icmp_eq_t (tgt := 43) dX12_isDeed_36 (by decide) c10 ?_
          refine jw_forget [false, false, false] (L' := [none, none, none]) rfl ?_
          exact l_X12_isDeed_b43  hq
        · refine jw_icmp_eq_f (tgt := 43) dX12_isDeed_36 (by decide) c10 ?_
          refine jw_iconst dX12_isDeed_39 (v := (1 : Int32)) (by decide) ?_
          refine jw_goto (tgt := 44) dX12_isDeed_40 (by decide) ?_
          refine jw_forget [false, false, false] (L' := [none, none, none]) rfl ?_
          exact l_X12_isDeed_b44  hq

theorem c_X12_isDeed {h : jw_H} {x0 : Nat} {x1 : Int32} {r : Int32} {h' : jw_H} (hq : f_X12_isDeed h x0 x1 = some (r, h')) : jw_Con (Cond.code yX12_isDeed cX12_isDeed 3 (some .boolean)) yX12_isDeed 11 [.ref x0, .int x1] h (.inl (some (.int r))) h' :=
  jw_con false (plainFor_of_name (by decide +kernel)) (fun z => nomatch z) (by simp [jw_ent, jw_sl0_nil, jw_sl0_int, jw_sl0_long, jw_sl0_ref, jw_sl0_rf, jw_sl0_scr, List.replicate]) (by simp [jw_sl0_nil, jw_sl0_int, jw_sl0_long, jw_sl0_ref, jw_sl0_rf, jw_sl0_scr]) (l_X12_isDeed hq)


/-! X12_doAll -/
noncomputable def g_X12_doAll_b114 (k29 : jw_H → Nat → Int32 → Int32 → Option (Int32 × jw_H)) (h : jw_H) (x0 : Nat) (x2 : Int32) (x3 : Int32) : Option (Int32 × jw_H) :=
 k29 h x0 x3 (x2 + (1 : Int32))

noncomputable def g_X12_doAll_b29 (k29 : jw_H → Nat → Int32 → Int32 → Option (Int32 × jw_H)) (h : jw_H) (x0 : Nat) (x1 : Int32) (x2 : Int32) : Option (Int32 × jw_H) :=
 (jw_gI h 12 (some x0) 22).bind fun v1 =>
 if v1 ≤ x1 then (some (x2, h))
 else ((jw_gI h 12 (some x0) 18).bind fun v3 =>
 if v3 = 0 then ((jw_gI h 12 (some x0) 45).bind fun v5 =>
 if v5 = (60 : Int32) then ((jw_pI h 12 (some x0) 18 (7 : Int32)).bind fun h29 =>
 some (x2, h29))
 else ((jw_gI h 12 (some x0) 45).bind fun v7 =>
 (jw_pI h 12 (some x0) 45 (v7 + (1 : Int32))).bind fun h8 =>
 (jw_rc h8 12 (some x0)).bind fun a9 =>
 jw_b2 (f_X12_save h8 a9) fun w11 h10 =>
 (jw_rc h10 12 (some x0)).bind fun a12 =>
 jw_b2 (f_X12_doOrder h10 a12 x1) fun w14 h13 =>
 (jw_pI h13 12 (some x0) 18 w14).bind fun h15 =>
 (jw_gI h15 12 (some x0) 18).bind fun v16 =>
 if v16 ≤ 0 then ((jw_gI h15 12 (some x0) 64).bind fun v18 =>
 (jw_rc h15 12 (some x0)).bind fun a19 =>
 jw_b2 (f_X12_isDeed h15 a19 x1) fun w21 h20 =>
 if w21 = 0 then (g_X12_doAll_b114 k29 h20 x0 x2 v18)
 else ((jw_rc h20 12 (some x0)).bind fun a23 =>
 jw_b2 (f_X12_noteDeed h20 a23) fun w25 h24 =>
 g_X12_doAll_b114 k29 h24 x0 x2 v18))
 else ((jw_rc h15 12 (some x0)).bind fun a26 =>
 jw_b2 (f_X12_comeBack h15 a26) fun w28 h27 =>
 some (x2, h27))))
 else (some (x2, h)))

noncomputable def f_X12_doAll_b29 (n : Nat) : jw_H → Nat → Int32 → Int32 → Option (Int32 × jw_H) :=
 Nat.rec (fun _ _ _ _ => none) (fun _ k29 => g_X12_doAll_b29 k29) n

noncomputable def f_X12_doAll (h : jw_H) (x0 : Nat) : Option (Int32 × jw_H) :=
 (jw_gI h 12 (some x0) 63).bind fun v1 =>
 (jw_pI h 12 (some x0) 63 (v1 + (1 : Int32))).bind fun h2 =>
 (jw_pI h2 12 (some x0) 45 (0 : Int32)).bind fun h3 =>
 (jw_pB h3 12 (some x0) 44 (0 : Int32)).bind fun h4 =>
 (jw_pI h4 12 (some x0) 18 (0 : Int32)).bind fun h5 =>
 f_X12_doAll_b29  jw_FU h5 x0 (0 : Int32) (0 : Int32)

set_option maxRecDepth 100000 in
set_option maxHeartbeats 4000000 in
theorem l_X12_doAll_b114 {hi : jw_H} {k29 : jw_H → Nat → Int32 → Int32 → Option (Int32 × jw_H)} (hk29 : ∀ (h : jw_H) (x0 : Nat) (x1 : Int32) (x2 : Int32) (r : Int32) (h' : jw_H), k29 h x0 x1 x2 = some (r, h') → jw_E 18 uX12_doAll hi 29 [some (.ref x0), some (.int x1), some (.int x2), none] [] h (.inl (some (.int r))) h') {h : jw_H} {x0 : Nat} {x2 : Int32} {x3 : Int32} {r : Int32} {h' : jw_H} (hq : g_X12_doAll_b114 k29 h x0 x2 x3 = some (r, h')) : jw_E 18 uX12_doAll hi 114 [some (.ref x0), none, some (.int x2), some (.int x3)] [] h (.inl (some (.int r))) h' := by
  unfold g_X12_doAll_b114 at hq
  refine jw_iinc (L' := [some (.ref x0), none, some (.int (x2 + (1 : Int32))), some (.int x3)]) dX12_doAll_114 rfl (v := (1 : Int32)) (by decide) (Nat.le_of_ble_eq_true rfl) rfl ?_
  refine jw_iload_n dX12_doAll_117 rfl ?_
  refine jw_istore_n (L' := [some (.ref x0), some (.int x3), some (.int (x2 + (1 : Int32))), some (.int x3)]) dX12_doAll_118 (Nat.le_of_ble_eq_true rfl) rfl ?_
  refine jw_goto (tgt := 29) dX12_doAll_119 (by decide) ?_
  refine jw_forget [true, true, true, false] (L' := [some (.ref x0), some (.int x3), some (.int (x2 + (1 : Int32))), none]) rfl ?_
  exact hk29 _ _ _ _ _ _ hq

set_option maxRecDepth 100000 in
set_option maxHeartbeats 4000000 in
theorem l_X12_doAll_b29g {hi : jw_H} {k29 : jw_H → Nat → Int32 → Int32 → Option (Int32 × jw_H)} (hk29 : ∀ (h : jw_H) (x0 : Nat) (x1 : Int32) (x2 : Int32) (r : Int32) (h' : jw_H), k29 h x0 x1 x2 = some (r, h') → jw_E 18 uX12_doAll hi 29 [some (.ref x0), some (.int x1), some (.int x2), none] [] h (.inl (some (.int r))) h') {h : jw_H} {x0 : Nat} {x1 : Int32} {x2 : Int32} {r : Int32} {h' : jw_H} (hq : g_X12_doAll_b29 k29 h x0 x1 x2 = some (r, h')) : jw_E 18 uX12_doAll hi 29 [some (.ref x0), some (.int x1), some (.int x2), none] [] h (.inl (some (.int r))) h' := by
  unfold g_X12_doAll_b29 at hq
  refine jw_iload_n dX12_doAll_29 rfl ?_
  refine jw_aload_n dX12_doAll_30 (o := (some x0)) rfl ?_
  obtain ⟨v1, ev1, hq⟩ := Option.bind_eq_some_iff.mp hq
  refine jw_getI (o := (some x0)) dX12_doAll_31 ev1 fl_X12_146 rfl ?_
  rcases jw_if hq with ⟨c2, hq⟩ | ⟨c2, hq⟩
  · refine jw_icmp_ge_t (tgt := 122) dX12_doAll_34 (by decide) c2 ?_
    refine jw_iload_n dX12_doAll_122 rfl ?_
    cases hq
    exact jw_iret (ty := .int) dX12_doAll_123 rfl rfl
  · refine jw_icmp_ge_f (tgt := 122) dX12_doAll_34 (by decide) c2 ?_
    refine jw_aload_n dX12_doAll_37 (o := (some x0)) rfl ?_
    obtain ⟨v3, ev3, hq⟩ := Option.bind_eq_some_iff.mp hq
    refine jw_getI (o := (some x0)) dX12_doAll_38 ev3 fl_X12_518 rfl ?_
    rcases jw_if hq with ⟨c4, hq⟩ | ⟨c4, hq⟩
    · refine jw_if_ne_f (tgt := 122) dX12_doAll_41 (by decide) c4 ?_
      refine jw_aload_n dX12_doAll_44 (o := (some x0)) rfl ?_
      obtain ⟨v5, ev5, hq⟩ := Option.bind_eq_some_iff.mp hq
      refine jw_getI (o := (some x0)) dX12_doAll_45 ev5 fl_X12_455 rfl ?_
      refine jw_bipush dX12_doAll_48 (v := (60 : Int32)) (by decide) ?_
      rcases jw_if hq with ⟨c6, hq⟩ | ⟨c6, hq⟩
      · refine jw_icmp_ne_f (tgt := 61) dX12_doAll_50 (by decide) c6 ?_
        refine jw_aload_n dX12_doAll_53 (o := (some x0)) rfl ?_
        refine jw_bipush dX12_doAll_54 (v := (7 : Int32)) (by decide) ?_
        obtain ⟨h29, eh29, hq⟩ := Option.bind_eq_some_iff.mp hq
        refine jw_putI (o := (some x0)) dX12_doAll_56 eh29 fl_X12_518 rfl rfl ?_
        refine jw_iload_n dX12_doAll_59 rfl ?_
        cases hq
        exact jw_iret (ty := .int) dX12_doAll_60 rfl rfl
      · refine jw_icmp_ne_t (tgt := 61) dX12_doAll_50 (by decide) c6 ?_
        refine jw_aload_n dX12_doAll_61 (o := (some x0)) rfl ?_
        refine jw_dup dX12_doAll_62 rfl ?_
        obtain ⟨v7, ev7, hq⟩ := Option.bind_eq_some_iff.mp hq
        refine jw_getI (o := (some x0)) dX12_doAll_63 ev7 fl_X12_455 rfl ?_
        refine jw_iconst dX12_doAll_66 (v := (1 : Int32)) (by decide) ?_
        refine jw_iadd dX12_doAll_67 ?_
        obtain ⟨h8, eh8, hq⟩ := Option.bind_eq_some_iff.mp hq
        refine jw_putI (o := (some x0)) dX12_doAll_68 eh8 fl_X12_455 rfl rfl ?_
        refine jw_aload_n dX12_doAll_71 (o := (some x0)) rfl ?_
        obtain ⟨a9, ea9, hq⟩ := Option.bind_eq_some_iff.mp hq
        obtain ⟨eoa9, eta9⟩ := jw_rc_spec ea9
        obtain ⟨w11, h10, ew11, hq⟩ := jw_b2_spec hq
        refine jw_callV (As := []) (S := []) (a := a9) (v := none) dX12_doAll_72 mt_X12_save in_X12_save se_X12_save lk_X12_521 (c_X12_save ew11) eta9 (by decide) rfl rfl (by decide) (Nat.le_of_ble_eq_true rfl) (by cases eoa9; rfl) ?_
        refine jw_aload_n dX12_doAll_75 (o := (some x0)) rfl ?_
        refine jw_aload_n dX12_doAll_76 (o := (some x0)) rfl ?_
        refine jw_iload_n dX12_doAll_77 rfl ?_
        obtain ⟨a12, ea12, hq⟩ := Option.bind_eq_some_iff.mp hq
        obtain ⟨eoa12, eta12⟩ := jw_rc_spec ea12
        obtain ⟨w14, h13, ew14, hq⟩ := jw_b2_spec hq
        refine jw_callV (As := [.int x1]) (S := [.ref x0]) (a := a12) (v := some (.int w14)) dX12_doAll_78 mt_X12_doOrder in_X12_doOrder se_X12_doOrder lk_X12_524 (c_X12_doOrder ew14) eta12 (by decide) rfl rfl (by decide) (Nat.le_of_ble_eq_true rfl) (by cases eoa12; rfl) ?_
        obtain ⟨h15, eh15, hq⟩ := Option.bind_eq_some_iff.mp hq
        refine jw_putI (o := (some x0)) dX12_doAll_81 eh15 fl_X12_518 rfl rfl ?_
        refine jw_aload_n dX12_doAll_84 (o := (some x0)) rfl ?_
        obtain ⟨v16, ev16, hq⟩ := Option.bind_eq_some_iff.mp hq
        refine jw_getI (o := (some x0)) dX12_doAll_85 ev16 fl_X12_518 rfl ?_
        rcases jw_if hq with ⟨c17, hq⟩ | ⟨c17, hq⟩
        · refine jw_if_le_t (tgt := 97) dX12_doAll_88 (by decide) c17 ?_
          refine jw_aload_n dX12_doAll_97 (o := (some x0)) rfl ?_
          obtain ⟨v18, ev18, hq⟩ := Option.bind_eq_some_iff.mp hq
          refine jw_getI (o := (some x0)) dX12_doAll_98 ev18 fl_X12_506 rfl ?_
          refine jw_istore_n (L' := [some (.ref x0), some (.int x1), some (.int x2), some (.int v18)]) dX12_doAll_101 (Nat.le_of_ble_eq_true rfl) rfl ?_
          refine jw_aload_n dX12_doAll_102 (o := (some x0)) rfl ?_
          refine jw_iload_n dX12_doAll_103 rfl ?_
          obtain ⟨a19, ea19, hq⟩ := Option.bind_eq_some_iff.mp hq
          obtain ⟨eoa19, eta19⟩ := jw_rc_spec ea19
          obtain ⟨w21, h20, ew21, hq⟩ := jw_b2_spec hq
          refine jw_callV (As := [.int x1]) (S := []) (a := a19) (v := some (.int w21)) dX12_doAll_104 mt_X12_isDeed in_X12_isDeed se_X12_isDeed lk_X12_530 (c_X12_isDeed ew21) eta19 (by decide) rfl rfl (by decide) (Nat.le_of_ble_eq_true rfl) (by cases eoa19; rfl) ?_
          rcases jw_if hq with ⟨c22, hq⟩ | ⟨c22, hq⟩
          · refine jw_if_eq_t (tgt := 114) dX12_doAll_107 (by decide) c22 ?_
            refine jw_forget [true, false, true, true] (L' := [some (.ref x0), none, some (.int x2), some (.int v18)]) rfl ?_
            exact l_X12_doAll_b114 hk29 hq
          · refine jw_if_eq_f (tgt := 114) dX12_doAll_107 (by decide) c22 ?_
            refine jw_aload_n dX12_doAll_110 (o := (some x0)) rfl ?_
            obtain ⟨a23, ea23, hq⟩ := Option.bind_eq_some_iff.mp hq
            obtain ⟨eoa23, eta23⟩ := jw_rc_spec ea23
            obtain ⟨w25, h24, ew25, hq⟩ := jw_b2_spec hq
            refine jw_callV (As := []) (S := []) (a := a23) (v := none) dX12_doAll_111 mt_X12_noteDeed in_X12_noteDeed se_X12_noteDeed lk_X12_533 (c_X12_noteDeed ew25) eta23 (by decide) rfl rfl (by decide) (Nat.le_of_ble_eq_true rfl) (by cases eoa23; rfl) ?_
            refine jw_forget [true, false, true, true] (L' := [some (.ref x0), none, some (.int x2), some (.int v18)]) rfl ?_
            exact l_X12_doAll_b114 hk29 hq
        · refine jw_if_le_f (tgt := 97) dX12_doAll_88 (by decide) c17 ?_
          refine jw_aload_n dX12_doAll_91 (o := (some x0)) rfl ?_
          obtain ⟨a26, ea26, hq⟩ := Option.bind_eq_some_iff.mp hq
          obtain ⟨eoa26, eta26⟩ := jw_rc_spec ea26
          obtain ⟨w28, h27, ew28, hq⟩ := jw_b2_spec hq
          refine jw_callV (As := []) (S := []) (a := a26) (v := none) dX12_doAll_92 mt_X12_comeBack in_X12_comeBack se_X12_comeBack lk_X12_527 (c_X12_comeBack ew28) eta26 (by decide) rfl rfl (by decide) (Nat.le_of_ble_eq_true rfl) (by cases eoa26; rfl) ?_
          refine jw_iload_n dX12_doAll_95 rfl ?_
          cases hq
          exact jw_iret (ty := .int) dX12_doAll_96 rfl rfl
    · refine jw_if_ne_t (tgt := 122) dX12_doAll_41 (by decide) c4 ?_
      refine jw_iload_n dX12_doAll_122 rfl ?_
      cases hq
      exact jw_iret (ty := .int) dX12_doAll_123 rfl rfl

theorem l_X12_doAll_b29 {hi : jw_H} : ∀ (n : Nat) (h : jw_H) (x0 : Nat) (x1 : Int32) (x2 : Int32) (r : Int32) (h' : jw_H), f_X12_doAll_b29  n h x0 x1 x2 = some (r, h') → jw_E 18 uX12_doAll hi 29 [some (.ref x0), some (.int x1), some (.int x2), none] [] h (.inl (some (.int r))) h' := by
  intro n
  induction n with
  | zero => intro h x0 x1 x2 r h' hq; exact nomatch hq
  | succ n ih => intro h x0 x1 x2 r h' hq; exact l_X12_doAll_b29g ih hq

set_option maxRecDepth 100000 in
set_option maxHeartbeats 4000000 in
theorem l_X12_doAll {hi : jw_H} {h : jw_H} {x0 : Nat} {r : Int32} {h' : jw_H} (hq : f_X12_doAll  h x0 = some (r, h')) : jw_E 18 uX12_doAll hi 0 [some (.ref x0), none, none, none] [] h (.inl (some (.int r))) h' := by
  unfold f_X12_doAll at hq
  refine jw_iconst dX12_doAll_0 (v := (0 : Int32)) (by decide) ?_
  refine jw_istore_n (L' := [some (.ref x0), some (.int (0 : Int32)), none, none]) dX12_doAll_1 (Nat.le_of_ble_eq_true rfl) rfl ?_
  refine jw_iconst dX12_doAll_2 (v := (0 : Int32)) (by decide) ?_
  refine jw_istore_n (L' := [some (.ref x0), some (.int (0 : Int32)), some (.int (0 : Int32)), none]) dX12_doAll_3 (Nat.le_of_ble_eq_true rfl) rfl ?_
  refine jw_aload_n dX12_doAll_4 (o := (some x0)) rfl ?_
  refine jw_dup dX12_doAll_5 rfl ?_
  obtain ⟨v1, ev1, hq⟩ := Option.bind_eq_some_iff.mp hq
  refine jw_getI (o := (some x0)) dX12_doAll_6 ev1 fl_X12_497 rfl ?_
  refine jw_iconst dX12_doAll_9 (v := (1 : Int32)) (by decide) ?_
  refine jw_iadd dX12_doAll_10 ?_
  obtain ⟨h2, eh2, hq⟩ := Option.bind_eq_some_iff.mp hq
  refine jw_putI (o := (some x0)) dX12_doAll_11 eh2 fl_X12_497 rfl rfl ?_
  refine jw_aload_n dX12_doAll_14 (o := (some x0)) rfl ?_
  refine jw_iconst dX12_doAll_15 (v := (0 : Int32)) (by decide) ?_
  obtain ⟨h3, eh3, hq⟩ := Option.bind_eq_some_iff.mp hq
  refine jw_putI (o := (some x0)) dX12_doAll_16 eh3 fl_X12_455 rfl rfl ?_
  refine jw_aload_n dX12_doAll_19 (o := (some x0)) rfl ?_
  refine jw_iconst dX12_doAll_20 (v := (0 : Int32)) (by decide) ?_
  obtain ⟨h4, eh4, hq⟩ := Option.bind_eq_some_iff.mp hq
  refine jw_putB (o := (some x0)) dX12_doAll_21 eh4 fl_X12_385 rfl rfl ?_
  refine jw_aload_n dX12_doAll_24 (o := (some x0)) rfl ?_
  refine jw_iconst dX12_doAll_25 (v := (0 : Int32)) (by decide) ?_
  obtain ⟨h5, eh5, hq⟩ := Option.bind_eq_some_iff.mp hq
  refine jw_putI (o := (some x0)) dX12_doAll_26 eh5 fl_X12_518 rfl rfl ?_
  exact l_X12_doAll_b29  jw_FU _ _ _ _ _ _ hq

theorem c_X12_doAll {h : jw_H} {x0 : Nat} {r : Int32} {h' : jw_H} (hq : f_X12_doAll h x0 = some (r, h')) : jw_Con (Cond.code yX12_doAll cX12_doAll 4 (some .int)) yX12_doAll 18 [.ref x0] h (.inl (some (.int r))) h' :=
  jw_con false (plainFor_of_name (by decide +kernel)) (fun z => nomatch z) (by simp [jw_ent, jw_sl0_nil, jw_sl0_int, jw_sl0_long, jw_sl0_ref, jw_sl0_rf, jw_sl0_scr, List.replicate]) (by simp [jw_sl0_nil, jw_sl0_int, jw_sl0_long, jw_sl0_ref, jw_sl0_rf, jw_sl0_scr]) (l_X12_doAll hq)


/-! X12_put -/
noncomputable def f_X12_put (h : jw_H) (x0 : Nat) (x1 : Int32) (x2 : Int32) : Option (Int32 × jw_H) :=
 (jw_gI h 12 (some x0) 13).bind fun v1 =>
 if v1 = (40 : Int32) then (some ((4 : Int32), h))
 else ((jw_gI h 12 (some x0) 13).bind fun v3 =>
 (jw_rc h 12 (some x0)).bind fun a4 =>
 jw_b2 (f_X12_copyRow h a4 x1 ((41 : Int32) + v3)) fun w6 h5 =>
 (jw_gR h5 12 (some x0) 8).bind fun v7 =>
 (jw_gI h5 12 (some x0) 13).bind fun v8 =>
 (jw_si h5 20 v7 v8 x2).bind fun h9 =>
 (jw_gI h9 12 (some x0) 13).bind fun v10 =>
 (jw_pI h9 12 (some x0) 13 (v10 + (1 : Int32))).bind fun h11 =>
 some ((0 : Int32), h11))

set_option maxRecDepth 100000 in
set_option maxHeartbeats 4000000 in
theorem l_X12_put {hi : jw_H} {h : jw_H} {x0 : Nat} {x1 : Int32} {x2 : Int32} {r : Int32} {h' : jw_H} (hq : f_X12_put  h x0 x1 x2 = some (r, h')) : jw_E 1 uX12_put hi 0 [some (.ref x0), some (.int x1), some (.int x2)] [] h (.inl (some (.int r))) h' := by
  unfold f_X12_put at hq
  refine jw_aload_n dX12_put_0 (o := (some x0)) rfl ?_
  obtain ⟨v1, ev1, hq⟩ := Option.bind_eq_some_iff.mp hq
  refine jw_getI (o := (some x0)) dX12_put_1 ev1 fl_X12_536 rfl ?_
  refine jw_bipush dX12_put_4 (v := (40 : Int32)) (by decide) ?_
  rcases jw_if hq with ⟨c2, hq⟩ | ⟨c2, hq⟩
  · refine jw_icmp_ne_f (tgt := 11) dX12_put_6 (by decide) c2 ?_
    refine jw_iconst dX12_put_9 (v := (4 : Int32)) (by decide) ?_
    cases hq
    exact jw_iret (ty := .int) dX12_put_10 rfl rfl
  · refine jw_icmp_ne_t (tgt := 11) dX12_put_6 (by decide) c2 ?_
    refine jw_aload_n dX12_put_11 (o := (some x0)) rfl ?_
    refine jw_iload_n dX12_put_12 rfl ?_
    refine jw_bipush dX12_put_13 (v := (41 : Int32)) (by decide) ?_
    refine jw_aload_n dX12_put_15 (o := (some x0)) rfl ?_
    obtain ⟨v3, ev3, hq⟩ := Option.bind_eq_some_iff.mp hq
    refine jw_getI (o := (some x0)) dX12_put_16 ev3 fl_X12_536 rfl ?_
    refine jw_iadd dX12_put_19 ?_
    obtain ⟨a4, ea4, hq⟩ := Option.bind_eq_some_iff.mp hq
    obtain ⟨eoa4, eta4⟩ := jw_rc_spec ea4
    obtain ⟨w6, h5, ew6, hq⟩ := jw_b2_spec hq
    refine jw_callV (As := [.int x1, .int ((41 : Int32) + v3)]) (S := []) (a := a4) (v := none) dX12_put_20 mt_X12_copyRow in_X12_copyRow se_X12_copyRow lk_X12_127 (c_X12_copyRow ew6) eta4 (by decide) rfl rfl (by decide) (Nat.le_of_ble_eq_true rfl) (by cases eoa4; rfl) ?_
    refine jw_aload_n dX12_put_23 (o := (some x0)) rfl ?_
    obtain ⟨v7, ev7, hq⟩ := Option.bind_eq_some_iff.mp hq
    refine jw_getR (o := (some x0)) dX12_put_24 ev7 fl_X12_29 rfl ?_
    refine jw_aload_n dX12_put_27 (o := (some x0)) rfl ?_
    obtain ⟨v8, ev8, hq⟩ := Option.bind_eq_some_iff.mp hq
    refine jw_getI (o := (some x0)) dX12_put_28 ev8 fl_X12_536 rfl ?_
    refine jw_iload_n dX12_put_31 rfl ?_
    obtain ⟨h9, eh9, hq⟩ := Option.bind_eq_some_iff.mp hq
    refine jw_iast (o := v7) dX12_put_32 eh9 ?_
    refine jw_aload_n dX12_put_33 (o := (some x0)) rfl ?_
    refine jw_dup dX12_put_34 rfl ?_
    obtain ⟨v10, ev10, hq⟩ := Option.bind_eq_some_iff.mp hq
    refine jw_getI (o := (some x0)) dX12_put_35 ev10 fl_X12_536 rfl ?_
    refine jw_iconst dX12_put_38 (v := (1 : Int32)) (by decide) ?_
    refine jw_iadd dX12_put_39 ?_
    obtain ⟨h11, eh11, hq⟩ := Option.bind_eq_some_iff.mp hq
    refine jw_putI (o := (some x0)) dX12_put_40 eh11 fl_X12_536 rfl rfl ?_
    refine jw_iconst dX12_put_43 (v := (0 : Int32)) (by decide) ?_
    cases hq
    exact jw_iret (ty := .int) dX12_put_44 rfl rfl

theorem c_X12_put {h : jw_H} {x0 : Nat} {x1 : Int32} {x2 : Int32} {r : Int32} {h' : jw_H} (hq : f_X12_put h x0 x1 x2 = some (r, h')) : jw_Con (Cond.code yX12_put cX12_put 3 (some .int)) yX12_put 1 [.ref x0, .int x1, .int x2] h (.inl (some (.int r))) h' :=
  jw_con false (plainFor_of_name (by decide +kernel)) (fun z => nomatch z) (by simp [jw_ent, jw_sl0_nil, jw_sl0_int, jw_sl0_long, jw_sl0_ref, jw_sl0_rf, jw_sl0_scr, List.replicate]) (by simp [jw_sl0_nil, jw_sl0_int, jw_sl0_long, jw_sl0_ref, jw_sl0_rf, jw_sl0_scr]) (l_X12_put hq)


/-! X12_putNew -/
noncomputable def g_X12_putNew_b24 (h : jw_H) (x2 : Int32) (t0 : Nat) (t1 : Int32) (t2 : Int32) : Option (Int32 × jw_H) :=
 (jw_pI h 12 (some t0) 17 (t1 + t2)).bind fun h1 =>
 some (x2, h1)

noncomputable def f_X12_putNew (h : jw_H) (x0 : Nat) (x1 : Int32) : Option (Int32 × jw_H) :=
 (jw_gI h 12 (some x0) 17).bind fun v1 =>
 (jw_rc h 12 (some x0)).bind fun a2 =>
 jw_b2 (f_X12_put h a2 x1 v1) fun w4 h3 =>
 (jw_gI h3 12 (some x0) 17).bind fun v5 =>
 if w4 = 0 then (g_X12_putNew_b24  h3 w4 x0 v5 (1 : Int32))
 else (g_X12_putNew_b24  h3 w4 x0 v5 (0 : Int32))

set_option maxRecDepth 100000 in
set_option maxHeartbeats 4000000 in
theorem l_X12_putNew_b24 {hi : jw_H} {h : jw_H} {x2 : Int32} {t0 : Nat} {t1 : Int32} {t2 : Int32} {r : Int32} {h' : jw_H} (hq : g_X12_putNew_b24  h x2 t0 t1 t2 = some (r, h')) : jw_E 2 uX12_putNew hi 24 [none, none, some (.int x2)] [.int t2, .int t1, .ref t0] h (.inl (some (.int r))) h' := by
  unfold g_X12_putNew_b24 at hq
  refine jw_iadd dX12_putNew_24 ?_
  obtain ⟨h1, eh1, hq⟩ := Option.bind_eq_some_iff.mp hq
  refine jw_putI (o := (some t0)) dX12_putNew_25 eh1 fl_X12_134 rfl rfl ?_
  refine jw_iload_n dX12_putNew_28 rfl ?_
  cases hq
  exact jw_iret (ty := .int) dX12_putNew_29 rfl rfl

set_option maxRecDepth 100000 in
set_option maxHeartbeats 4000000 in
theorem l_X12_putNew {hi : jw_H} {h : jw_H} {x0 : Nat} {x1 : Int32} {r : Int32} {h' : jw_H} (hq : f_X12_putNew  h x0 x1 = some (r, h')) : jw_E 2 uX12_putNew hi 0 [some (.ref x0), some (.int x1), none] [] h (.inl (some (.int r))) h' := by
  unfold f_X12_putNew at hq
  refine jw_aload_n dX12_putNew_0 (o := (some x0)) rfl ?_
  refine jw_iload_n dX12_putNew_1 rfl ?_
  refine jw_aload_n dX12_putNew_2 (o := (some x0)) rfl ?_
  obtain ⟨v1, ev1, hq⟩ := Option.bind_eq_some_iff.mp hq
  refine jw_getI (o := (some x0)) dX12_putNew_3 ev1 fl_X12_134 rfl ?_
  obtain ⟨a2, ea2, hq⟩ := Option.bind_eq_some_iff.mp hq
  obtain ⟨eoa2, eta2⟩ := jw_rc_spec ea2
  obtain ⟨w4, h3, ew4, hq⟩ := jw_b2_spec hq
  refine jw_callV (As := [.int x1, .int v1]) (S := []) (a := a2) (v := some (.int w4)) dX12_putNew_6 mt_X12_put in_X12_put se_X12_put lk_X12_539 (c_X12_put ew4) eta2 (by decide) rfl rfl (by decide) (Nat.le_of_ble_eq_true rfl) (by cases eoa2; rfl) ?_
  refine jw_istore_n (L' := [some (.ref x0), some (.int x1), some (.int w4)]) dX12_putNew_9 (Nat.le_of_ble_eq_true rfl) rfl ?_
  refine jw_aload_n dX12_putNew_10 (o := (some x0)) rfl ?_
  refine jw_dup dX12_putNew_11 rfl ?_
  obtain ⟨v5, ev5, hq⟩ := Option.bind_eq_some_iff.mp hq
  refine jw_getI (o := (some x0)) dX12_putNew_12 ev5 fl_X12_134 rfl ?_
  refine jw_iload_n dX12_putNew_15 rfl ?_
  rcases jw_if hq with ⟨c6, hq⟩ | ⟨c6, hq⟩
  · refine jw_if_ne_f (tgt := 23) dX12_putNew_16 (by decide) c6 ?_
    refine jw_iconst dX12_putNew_19 (v := (1 : Int32)) (by decide) ?_
    refine jw_goto (tgt := 24) dX12_putNew_20 (by decide) ?_
    refine jw_forget [false, false, true] (L' := [none, none, some (.int w4)]) rfl ?_
    exact l_X12_putNew_b24  hq
  · refine jw_if_ne_t (tgt := 23) dX12_putNew_16 (by decide) c6 ?_
    refine jw_iconst dX12_putNew_23 (v := (0 : Int32)) (by decide) ?_
    refine jw_forget [false, false, true] (L' := [none, none, some (.int w4)]) rfl ?_
    exact l_X12_putNew_b24  hq

theorem c_X12_putNew {h : jw_H} {x0 : Nat} {x1 : Int32} {r : Int32} {h' : jw_H} (hq : f_X12_putNew h x0 x1 = some (r, h')) : jw_Con (Cond.code yX12_putNew cX12_putNew 3 (some .int)) yX12_putNew 2 [.ref x0, .int x1] h (.inl (some (.int r))) h' :=
  jw_con false (plainFor_of_name (by decide +kernel)) (fun z => nomatch z) (by simp [jw_ent, jw_sl0_nil, jw_sl0_int, jw_sl0_long, jw_sl0_ref, jw_sl0_rf, jw_sl0_scr, List.replicate]) (by simp [jw_sl0_nil, jw_sl0_int, jw_sl0_long, jw_sl0_ref, jw_sl0_rf, jw_sl0_scr]) (l_X12_putNew hq)


/-! X12_due -/
noncomputable def g_X12_due_b22 (h : jw_H) (x0 : Nat) : Option (Unit × jw_H) :=
 (jw_gI h 12 (some x0) 72).bind fun v1 =>
 (jw_pI h 12 (some x0) 72 (v1 + (1 : Int32))).bind fun h2 =>
 some ((), h2)

noncomputable def f_X12_due (h : jw_H) (x0 : Nat) (x1 : Int32) : Option (Unit × jw_H) :=
 (jw_gI h 12 (some x0) 72).bind fun v1 =>
 if (41 : Int32) ≤ v1 then (g_X12_due_b22  h x0)
 else ((jw_gI h 12 (some x0) 72).bind fun v3 =>
 (jw_rc h 12 (some x0)).bind fun a4 =>
 jw_b2 (f_X12_copyRow h a4 x1 ((388 : Int32) + v3)) fun w6 h5 =>
 g_X12_due_b22  h5 x0)

set_option maxRecDepth 100000 in
set_option maxHeartbeats 4000000 in
theorem l_X12_due_b22 {hi : jw_H} {h : jw_H} {x0 : Nat} {r : Unit} {h' : jw_H} (hq : g_X12_due_b22  h x0 = some (r, h')) : jw_E 1 uX12_due hi 22 [some (.ref x0), none] [] h (.inl none) h' := by
  unfold g_X12_due_b22 at hq
  refine jw_aload_n dX12_due_22 (o := (some x0)) rfl ?_
  refine jw_dup dX12_due_23 rfl ?_
  obtain ⟨v1, ev1, hq⟩ := Option.bind_eq_some_iff.mp hq
  refine jw_getI (o := (some x0)) dX12_due_24 ev1 fl_X12_542 rfl ?_
  refine jw_iconst dX12_due_27 (v := (1 : Int32)) (by decide) ?_
  refine jw_iadd dX12_due_28 ?_
  obtain ⟨h2, eh2, hq⟩ := Option.bind_eq_some_iff.mp hq
  refine jw_putI (o := (some x0)) dX12_due_29 eh2 fl_X12_542 rfl rfl ?_
  cases hq
  exact jw_vret dX12_due_32 rfl

set_option maxRecDepth 100000 in
set_option maxHeartbeats 4000000 in
theorem l_X12_due {hi : jw_H} {h : jw_H} {x0 : Nat} {x1 : Int32} {r : Unit} {h' : jw_H} (hq : f_X12_due  h x0 x1 = some (r, h')) : jw_E 1 uX12_due hi 0 [some (.ref x0), some (.int x1)] [] h (.inl none) h' := by
  unfold f_X12_due at hq
  refine jw_aload_n dX12_due_0 (o := (some x0)) rfl ?_
  obtain ⟨v1, ev1, hq⟩ := Option.bind_eq_some_iff.mp hq
  refine jw_getI (o := (some x0)) dX12_due_1 ev1 fl_X12_542 rfl ?_
  refine jw_bipush dX12_due_4 (v := (41 : Int32)) (by decide) ?_
  rcases jw_if hq with ⟨c2, hq⟩ | ⟨c2, hq⟩
  · refine jw_icmp_ge_t (tgt := 22) dX12_due_6 (by decide) c2 ?_
    refine jw_forget [true, false] (L' := [some (.ref x0), none]) rfl ?_
    exact l_X12_due_b22  hq
  · refine jw_icmp_ge_f (tgt := 22) dX12_due_6 (by decide) c2 ?_
    refine jw_aload_n dX12_due_9 (o := (some x0)) rfl ?_
    refine jw_iload_n dX12_due_10 rfl ?_
    refine jw_sipush dX12_due_11 (v := (388 : Int32)) (by decide) ?_
    refine jw_aload_n dX12_due_14 (o := (some x0)) rfl ?_
    obtain ⟨v3, ev3, hq⟩ := Option.bind_eq_some_iff.mp hq
    refine jw_getI (o := (some x0)) dX12_due_15 ev3 fl_X12_542 rfl ?_
    refine jw_iadd dX12_due_18 ?_
    obtain ⟨a4, ea4, hq⟩ := Option.bind_eq_some_iff.mp hq
    obtain ⟨eoa4, eta4⟩ := jw_rc_spec ea4
    obtain ⟨w6, h5, ew6, hq⟩ := jw_b2_spec hq
    refine jw_callV (As := [.int x1, .int ((388 : Int32) + v3)]) (S := []) (a := a4) (v := none) dX12_due_19 mt_X12_copyRow in_X12_copyRow se_X12_copyRow lk_X12_127 (c_X12_copyRow ew6) eta4 (by decide) rfl rfl (by decide) (Nat.le_of_ble_eq_true rfl) (by cases eoa4; rfl) ?_
    refine jw_forget [true, false] (L' := [some (.ref x0), none]) rfl ?_
    exact l_X12_due_b22  hq

theorem c_X12_due {h : jw_H} {x0 : Nat} {x1 : Int32} {r : Unit} {h' : jw_H} (hq : f_X12_due h x0 x1 = some (r, h')) : jw_Con (Cond.code yX12_due cX12_due 2 none) yX12_due 1 [.ref x0, .int x1] h (.inl none) h' :=
  jw_con false (plainFor_of_name (by decide +kernel)) (fun z => nomatch z) (by simp [jw_ent, jw_sl0_nil, jw_sl0_int, jw_sl0_long, jw_sl0_ref, jw_sl0_rf, jw_sl0_scr, List.replicate]) (by simp [jw_sl0_nil, jw_sl0_int, jw_sl0_long, jw_sl0_ref, jw_sl0_rf, jw_sl0_scr]) (l_X12_due hq)


/-! X12_takeNext -/
noncomputable def f_X12_takeNext (h : jw_H) (x0 : Nat) : Option (Unit × jw_H) :=
 (jw_gI h 12 (some x0) 66).bind fun v1 =>
 (jw_rc h 12 (some x0)).bind fun a2 =>
 jw_b2 (f_X12_copyRow h a2 ((0 : Int32) + v1) (429 : Int32)) fun w4 h3 =>
 (jw_gR h3 12 (some x0) 7).bind fun v5 =>
 (jw_gI h3 12 (some x0) 66).bind fun v6 =>
 (jw_ai h3 20 v5 v6).bind fun v7 =>
 (jw_pI h3 12 (some x0) 67 v7).bind fun h8 =>
 (jw_gI h8 12 (some x0) 66).bind fun v9 =>
 (jw_pI h8 12 (some x0) 68 (v9 + (1 : Int32))).bind fun h10 =>
 (jw_gI h10 12 (some x0) 66).bind fun v11 =>
 (jw_pI h10 12 (some x0) 66 (v11 + (1 : Int32))).bind fun h12 =>
 (jw_gI h12 12 (some x0) 69).bind fun v13 =>
 (jw_pI h12 12 (some x0) 69 (v13 + (1 : Int32))).bind fun h14 =>
 (jw_pB h14 12 (some x0) 70 (1 : Int32)).bind fun h15 =>
 (jw_pI h15 12 (some x0) 72 (0 : Int32)).bind fun h16 =>
 (jw_pB h16 12 (some x0) 44 (0 : Int32)).bind fun h17 =>
 some ((), h17)

set_option maxRecDepth 100000 in
set_option maxHeartbeats 4000000 in
theorem l_X12_takeNext {hi : jw_H} {h : jw_H} {x0 : Nat} {r : Unit} {h' : jw_H} (hq : f_X12_takeNext  h x0 = some (r, h')) : jw_E 1 uX12_takeNext hi 0 [some (.ref x0)] [] h (.inl none) h' := by
  unfold f_X12_takeNext at hq
  refine jw_aload_n dX12_takeNext_0 (o := (some x0)) rfl ?_
  refine jw_iconst dX12_takeNext_1 (v := (0 : Int32)) (by decide) ?_
  refine jw_aload_n dX12_takeNext_2 (o := (some x0)) rfl ?_
  obtain ⟨v1, ev1, hq⟩ := Option.bind_eq_some_iff.mp hq
  refine jw_getI (o := (some x0)) dX12_takeNext_3 ev1 fl_X12_545 rfl ?_
  refine jw_iadd dX12_takeNext_6 ?_
  refine jw_sipush dX12_takeNext_7 (v := (429 : Int32)) (by decide) ?_
  obtain ⟨a2, ea2, hq⟩ := Option.bind_eq_some_iff.mp hq
  obtain ⟨eoa2, eta2⟩ := jw_rc_spec ea2
  obtain ⟨w4, h3, ew4, hq⟩ := jw_b2_spec hq
  refine jw_callV (As := [.int ((0 : Int32) + v1), .int (429 : Int32)]) (S := []) (a := a2) (v := none) dX12_takeNext_10 mt_X12_copyRow in_X12_copyRow se_X12_copyRow lk_X12_127 (c_X12_copyRow ew4) eta2 (by decide) rfl rfl (by decide) (Nat.le_of_ble_eq_true rfl) (by cases eoa2; rfl) ?_
  refine jw_aload_n dX12_takeNext_13 (o := (some x0)) rfl ?_
  refine jw_aload_n dX12_takeNext_14 (o := (some x0)) rfl ?_
  obtain ⟨v5, ev5, hq⟩ := Option.bind_eq_some_iff.mp hq
  refine jw_getR (o := (some x0)) dX12_takeNext_15 ev5 fl_X12_26 rfl ?_
  refine jw_aload_n dX12_takeNext_18 (o := (some x0)) rfl ?_
  obtain ⟨v6, ev6, hq⟩ := Option.bind_eq_some_iff.mp hq
  refine jw_getI (o := (some x0)) dX12_takeNext_19 ev6 fl_X12_545 rfl ?_
  obtain ⟨v7, ev7, hq⟩ := Option.bind_eq_some_iff.mp hq
  refine jw_iald (o := v5) dX12_takeNext_22 ev7 ?_
  obtain ⟨h8, eh8, hq⟩ := Option.bind_eq_some_iff.mp hq
  refine jw_putI (o := (some x0)) dX12_takeNext_23 eh8 fl_X12_548 rfl rfl ?_
  refine jw_aload_n dX12_takeNext_26 (o := (some x0)) rfl ?_
  refine jw_aload_n dX12_takeNext_27 (o := (some x0)) rfl ?_
  obtain ⟨v9, ev9, hq⟩ := Option.bind_eq_some_iff.mp hq
  refine jw_getI (o := (some x0)) dX12_takeNext_28 ev9 fl_X12_545 rfl ?_
  refine jw_iconst dX12_takeNext_31 (v := (1 : Int32)) (by decide) ?_
  refine jw_iadd dX12_takeNext_32 ?_
  obtain ⟨h10, eh10, hq⟩ := Option.bind_eq_some_iff.mp hq
  refine jw_putI (o := (some x0)) dX12_takeNext_33 eh10 fl_X12_551 rfl rfl ?_
  refine jw_aload_n dX12_takeNext_36 (o := (some x0)) rfl ?_
  refine jw_dup dX12_takeNext_37 rfl ?_
  obtain ⟨v11, ev11, hq⟩ := Option.bind_eq_some_iff.mp hq
  refine jw_getI (o := (some x0)) dX12_takeNext_38 ev11 fl_X12_545 rfl ?_
  refine jw_iconst dX12_takeNext_41 (v := (1 : Int32)) (by decide) ?_
  refine jw_iadd dX12_takeNext_42 ?_
  obtain ⟨h12, eh12, hq⟩ := Option.bind_eq_some_iff.mp hq
  refine jw_putI (o := (some x0)) dX12_takeNext_43 eh12 fl_X12_545 rfl rfl ?_
  refine jw_aload_n dX12_takeNext_46 (o := (some x0)) rfl ?_
  refine jw_dup dX12_takeNext_47 rfl ?_
  obtain ⟨v13, ev13, hq⟩ := Option.bind_eq_some_iff.mp hq
  refine jw_getI (o := (some x0)) dX12_takeNext_48 ev13 fl_X12_554 rfl ?_
  refine jw_iconst dX12_takeNext_51 (v := (1 : Int32)) (by decide) ?_
  refine jw_iadd dX12_takeNext_52 ?_
  obtain ⟨h14, eh14, hq⟩ := Option.bind_eq_some_iff.mp hq
  refine jw_putI (o := (some x0)) dX12_takeNext_53 eh14 fl_X12_554 rfl rfl ?_
  refine jw_aload_n dX12_takeNext_56 (o := (some x0)) rfl ?_
  refine jw_iconst dX12_takeNext_57 (v := (1 : Int32)) (by decide) ?_
  obtain ⟨h15, eh15, hq⟩ := Option.bind_eq_some_iff.mp hq
  refine jw_putB (o := (some x0)) dX12_takeNext_58 eh15 fl_X12_557 rfl rfl ?_
  refine jw_aload_n dX12_takeNext_61 (o := (some x0)) rfl ?_
  refine jw_iconst dX12_takeNext_62 (v := (0 : Int32)) (by decide) ?_
  obtain ⟨h16, eh16, hq⟩ := Option.bind_eq_some_iff.mp hq
  refine jw_putI (o := (some x0)) dX12_takeNext_63 eh16 fl_X12_542 rfl rfl ?_
  refine jw_aload_n dX12_takeNext_66 (o := (some x0)) rfl ?_
  refine jw_iconst dX12_takeNext_67 (v := (0 : Int32)) (by decide) ?_
  obtain ⟨h17, eh17, hq⟩ := Option.bind_eq_some_iff.mp hq
  refine jw_putB (o := (some x0)) dX12_takeNext_68 eh17 fl_X12_385 rfl rfl ?_
  cases hq
  exact jw_vret dX12_takeNext_71 rfl

theorem c_X12_takeNext {h : jw_H} {x0 : Nat} {r : Unit} {h' : jw_H} (hq : f_X12_takeNext h x0 = some (r, h')) : jw_Con (Cond.code yX12_takeNext cX12_takeNext 1 none) yX12_takeNext 1 [.ref x0] h (.inl none) h' :=
  jw_con false (plainFor_of_name (by decide +kernel)) (fun z => nomatch z) (by simp [jw_ent, jw_sl0_nil, jw_sl0_int, jw_sl0_long, jw_sl0_ref, jw_sl0_rf, jw_sl0_scr, List.replicate]) (by simp [jw_sl0_nil, jw_sl0_int, jw_sl0_long, jw_sl0_ref, jw_sl0_rf, jw_sl0_scr]) (l_X12_takeNext hq)


/-! X12_putWork -/
noncomputable def g_X12_putWork_b25 (k25 : jw_H → Nat → Int32 → Int32 → Option (Int32 × jw_H)) (h : jw_H) (x0 : Nat) (x1 : Int32) (x2 : Int32) : Option (Int32 × jw_H) :=
 (jw_gI h 12 (some x0) 72).bind fun v1 =>
 if v1 ≤ x2 then (some (x1, h))
 else (if x1 = 0 then ((jw_rc h 12 (some x0)).bind fun a4 =>
 jw_b2 (f_X12_putNew h a4 ((388 : Int32) + x2)) fun w6 h5 =>
 k25 h5 x0 w6 (x2 + (1 : Int32)))
 else (some (x1, h)))

noncomputable def f_X12_putWork_b25 (n : Nat) : jw_H → Nat → Int32 → Int32 → Option (Int32 × jw_H) :=
 Nat.rec (fun _ _ _ _ => none) (fun _ k25 => g_X12_putWork_b25 k25) n

noncomputable def g_X12_putWork_b22 (h : jw_H) (x0 : Nat) (t0 : Int32) : Option (Int32 × jw_H) :=
 f_X12_putWork_b25  jw_FU h x0 t0 (0 : Int32)

noncomputable def f_X12_putWork (h : jw_H) (x0 : Nat) : Option (Int32 × jw_H) :=
 (jw_gI h 12 (some x0) 70).bind fun v1 =>
 if v1 = 0 then (g_X12_putWork_b22  h x0 (0 : Int32))
 else ((jw_gI h 12 (some x0) 67).bind fun v3 =>
 (jw_rc h 12 (some x0)).bind fun a4 =>
 jw_b2 (f_X12_put h a4 (429 : Int32) v3) fun w6 h5 =>
 g_X12_putWork_b22  h5 x0 w6)

set_option maxRecDepth 100000 in
set_option maxHeartbeats 4000000 in
theorem l_X12_putWork_b25g {hi : jw_H} {k25 : jw_H → Nat → Int32 → Int32 → Option (Int32 × jw_H)} (hk25 : ∀ (h : jw_H) (x0 : Nat) (x1 : Int32) (x2 : Int32) (r : Int32) (h' : jw_H), k25 h x0 x1 x2 = some (r, h') → jw_E 3 uX12_putWork hi 25 [some (.ref x0), some (.int x1), some (.int x2)] [] h (.inl (some (.int r))) h') {h : jw_H} {x0 : Nat} {x1 : Int32} {x2 : Int32} {r : Int32} {h' : jw_H} (hq : g_X12_putWork_b25 k25 h x0 x1 x2 = some (r, h')) : jw_E 3 uX12_putWork hi 25 [some (.ref x0), some (.int x1), some (.int x2)] [] h (.inl (some (.int r))) h' := by
  unfold g_X12_putWork_b25 at hq
  refine jw_iload_n dX12_putWork_25 rfl ?_
  refine jw_aload_n dX12_putWork_26 (o := (some x0)) rfl ?_
  obtain ⟨v1, ev1, hq⟩ := Option.bind_eq_some_iff.mp hq
  refine jw_getI (o := (some x0)) dX12_putWork_27 ev1 fl_X12_542 rfl ?_
  rcases jw_if hq with ⟨c2, hq⟩ | ⟨c2, hq⟩
  · refine jw_icmp_ge_t (tgt := 53) dX12_putWork_30 (by decide) c2 ?_
    refine jw_iload_n dX12_putWork_53 rfl ?_
    cases hq
    exact jw_iret (ty := .int) dX12_putWork_54 rfl rfl
  · refine jw_icmp_ge_f (tgt := 53) dX12_putWork_30 (by decide) c2 ?_
    refine jw_iload_n dX12_putWork_33 rfl ?_
    rcases jw_if hq with ⟨c3, hq⟩ | ⟨c3, hq⟩
    · refine jw_if_ne_f (tgt := 53) dX12_putWork_34 (by decide) c3 ?_
      refine jw_aload_n dX12_putWork_37 (o := (some x0)) rfl ?_
      refine jw_sipush dX12_putWork_38 (v := (388 : Int32)) (by decide) ?_
      refine jw_iload_n dX12_putWork_41 rfl ?_
      refine jw_iadd dX12_putWork_42 ?_
      obtain ⟨a4, ea4, hq⟩ := Option.bind_eq_some_iff.mp hq
      obtain ⟨eoa4, eta4⟩ := jw_rc_spec ea4
      obtain ⟨w6, h5, ew6, hq⟩ := jw_b2_spec hq
      refine jw_callV (As := [.int ((388 : Int32) + x2)]) (S := []) (a := a4) (v := some (.int w6)) dX12_putWork_43 mt_X12_putNew in_X12_putNew se_X12_putNew lk_X12_560 (c_X12_putNew ew6) eta4 (by decide) rfl rfl (by decide) (Nat.le_of_ble_eq_true rfl) (by cases eoa4; rfl) ?_
      refine jw_istore_n (L' := [some (.ref x0), some (.int w6), some (.int x2)]) dX12_putWork_46 (Nat.le_of_ble_eq_true rfl) rfl ?_
      refine jw_iinc (L' := [some (.ref x0), some (.int w6), some (.int (x2 + (1 : Int32)))]) dX12_putWork_47 rfl (v := (1 : Int32)) (by decide) (Nat.le_of_ble_eq_true rfl) rfl ?_
      refine jw_goto (tgt := 25) dX12_putWork_50 (by decide) ?_
      exact hk25 _ _ _ _ _ _ hq
    · refine jw_if_ne_t (tgt := 53) dX12_putWork_34 (by decide) c3 ?_
      refine jw_iload_n dX12_putWork_53 rfl ?_
      cases hq
      exact jw_iret (ty := .int) dX12_putWork_54 rfl rfl

theorem l_X12_putWork_b25 {hi : jw_H} : ∀ (n : Nat) (h : jw_H) (x0 : Nat) (x1 : Int32) (x2 : Int32) (r : Int32) (h' : jw_H), f_X12_putWork_b25  n h x0 x1 x2 = some (r, h') → jw_E 3 uX12_putWork hi 25 [some (.ref x0), some (.int x1), some (.int x2)] [] h (.inl (some (.int r))) h' := by
  intro n
  induction n with
  | zero => intro h x0 x1 x2 r h' hq; exact nomatch hq
  | succ n ih => intro h x0 x1 x2 r h' hq; exact l_X12_putWork_b25g ih hq

set_option maxRecDepth 100000 in
set_option maxHeartbeats 4000000 in
theorem l_X12_putWork_b22 {hi : jw_H} {h : jw_H} {x0 : Nat} {t0 : Int32} {r : Int32} {h' : jw_H} (hq : g_X12_putWork_b22  h x0 t0 = some (r, h')) : jw_E 3 uX12_putWork hi 22 [some (.ref x0), none, none] [.int t0] h (.inl (some (.int r))) h' := by
  unfold g_X12_putWork_b22 at hq
  refine jw_istore_n (L' := [some (.ref x0), some (.int t0), none]) dX12_putWork_22 (Nat.le_of_ble_eq_true rfl) rfl ?_
  refine jw_iconst dX12_putWork_23 (v := (0 : Int32)) (by decide) ?_
  refine jw_istore_n (L' := [some (.ref x0), some (.int t0), some (.int (0 : Int32))]) dX12_putWork_24 (Nat.le_of_ble_eq_true rfl) rfl ?_
  exact l_X12_putWork_b25  jw_FU _ _ _ _ _ _ hq

set_option maxRecDepth 100000 in
set_option maxHeartbeats 4000000 in
theorem l_X12_putWork {hi : jw_H} {h : jw_H} {x0 : Nat} {r : Int32} {h' : jw_H} (hq : f_X12_putWork  h x0 = some (r, h')) : jw_E 3 uX12_putWork hi 0 [some (.ref x0), none, none] [] h (.inl (some (.int r))) h' := by
  unfold f_X12_putWork at hq
  refine jw_aload_n dX12_putWork_0 (o := (some x0)) rfl ?_
  obtain ⟨v1, ev1, hq⟩ := Option.bind_eq_some_iff.mp hq
  refine jw_getI (o := (some x0)) dX12_putWork_1 ev1 fl_X12_557 rfl ?_
  rcases jw_if hq with ⟨c2, hq⟩ | ⟨c2, hq⟩
  · refine jw_if_eq_t (tgt := 21) dX12_putWork_4 (by decide) c2 ?_
    refine jw_iconst dX12_putWork_21 (v := (0 : Int32)) (by decide) ?_
    exact l_X12_putWork_b22  hq
  · refine jw_if_eq_f (tgt := 21) dX12_putWork_4 (by decide) c2 ?_
    refine jw_aload_n dX12_putWork_7 (o := (some x0)) rfl ?_
    refine jw_sipush dX12_putWork_8 (v := (429 : Int32)) (by decide) ?_
    refine jw_aload_n dX12_putWork_11 (o := (some x0)) rfl ?_
    obtain ⟨v3, ev3, hq⟩ := Option.bind_eq_some_iff.mp hq
    refine jw_getI (o := (some x0)) dX12_putWork_12 ev3 fl_X12_548 rfl ?_
    obtain ⟨a4, ea4, hq⟩ := Option.bind_eq_some_iff.mp hq
    obtain ⟨eoa4, eta4⟩ := jw_rc_spec ea4
    obtain ⟨w6, h5, ew6, hq⟩ := jw_b2_spec hq
    refine jw_callV (As := [.int (429 : Int32), .int v3]) (S := []) (a := a4) (v := some (.int w6)) dX12_putWork_15 mt_X12_put in_X12_put se_X12_put lk_X12_539 (c_X12_put ew6) eta4 (by decide) rfl rfl (by decide) (Nat.le_of_ble_eq_true rfl) (by cases eoa4; rfl) ?_
    refine jw_goto (tgt := 22) dX12_putWork_18 (by decide) ?_
    exact l_X12_putWork_b22  hq

theorem c_X12_putWork {h : jw_H} {x0 : Nat} {r : Int32} {h' : jw_H} (hq : f_X12_putWork h x0 = some (r, h')) : jw_Con (Cond.code yX12_putWork cX12_putWork 3 (some .int)) yX12_putWork 3 [.ref x0] h (.inl (some (.int r))) h' :=
  jw_con false (plainFor_of_name (by decide +kernel)) (fun z => nomatch z) (by simp [jw_ent, jw_sl0_nil, jw_sl0_int, jw_sl0_long, jw_sl0_ref, jw_sl0_rf, jw_sl0_scr, List.replicate]) (by simp [jw_sl0_nil, jw_sl0_int, jw_sl0_long, jw_sl0_ref, jw_sl0_rf, jw_sl0_scr]) (l_X12_putWork hq)


/-! X12_isNumeric -/
noncomputable def g_X12_isNumeric_b18 (h : jw_H) (t0 : Int32) : Option (Int32 × jw_H) :=
 (jw_rb t0).bind fun v1 =>
 some (t0, h)

noncomputable def g_X12_isNumeric_b13 (h : jw_H)  : Option (Int32 × jw_H) :=
 g_X12_isNumeric_b18  h (1 : Int32)

noncomputable def f_X12_isNumeric (h : jw_H) (x0 : Int32) : Option (Int32 × jw_H) :=
 jw_b2 (f_X12_isDigit h x0) fun w2 h1 =>
 if w2 = 0 then (if x0 = (36 : Int32) then (g_X12_isNumeric_b13  h1 )
 else (g_X12_isNumeric_b18  h1 (0 : Int32)))
 else (g_X12_isNumeric_b13  h1 )

set_option maxRecDepth 100000 in
set_option maxHeartbeats 4000000 in
theorem l_X12_isNumeric_b18 {hi : jw_H} {h : jw_H} {t0 : Int32} {r : Int32} {h' : jw_H} (hq : g_X12_isNumeric_b18  h t0 = some (r, h')) : jw_E 1 uX12_isNumeric hi 18 [none] [.int t0] h (.inl (some (.int r))) h' := by
  unfold g_X12_isNumeric_b18 at hq
  obtain ⟨v1, ev1, hq⟩ := Option.bind_eq_some_iff.mp hq
  cases hq
  exact jw_iret (ty := .boolean) dX12_isNumeric_18 rfl (jw_rb_spec ev1)

set_option maxRecDepth 100000 in
set_option maxHeartbeats 4000000 in
theorem l_X12_isNumeric_b13 {hi : jw_H} {h : jw_H}  {r : Int32} {h' : jw_H} (hq : g_X12_isNumeric_b13  h  = some (r, h')) : jw_E 1 uX12_isNumeric hi 13 [none] [] h (.inl (some (.int r))) h' := by
  unfold g_X12_isNumeric_b13 at hq
  refine jw_iconst dX12_isNumeric_13 (v := (1 : Int32)) (by decide) ?_
  refine jw_goto (tgt := 18) dX12_isNumeric_14 (by decide) ?_
  exact l_X12_isNumeric_b18  hq

set_option maxRecDepth 100000 in
set_option maxHeartbeats 4000000 in
theorem l_X12_isNumeric {hi : jw_H} {h : jw_H} {x0 : Int32} {r : Int32} {h' : jw_H} (hq : f_X12_isNumeric  h x0 = some (r, h')) : jw_E 1 uX12_isNumeric hi 0 [some (.int x0)] [] h (.inl (some (.int r))) h' := by
  unfold f_X12_isNumeric at hq
  refine jw_iload_n dX12_isNumeric_0 rfl ?_
  obtain ⟨w2, h1, ew2, hq⟩ := jw_b2_spec hq
  refine jw_callS (As := [.int x0]) (S := []) (v := some (.int w2)) dX12_isNumeric_1 mt_X12_isDigit st_X12_isDigit lk_X12_152 (c_X12_isDigit ew2) rfl (by decide) (Nat.le_of_ble_eq_true rfl) rfl ?_
  rcases jw_if hq with ⟨c3, hq⟩ | ⟨c3, hq⟩
  · refine jw_if_ne_f (tgt := 13) dX12_isNumeric_4 (by decide) c3 ?_
    refine jw_iload_n dX12_isNumeric_7 rfl ?_
    refine jw_bipush dX12_isNumeric_8 (v := (36 : Int32)) (by decide) ?_
    rcases jw_if hq with ⟨c4, hq⟩ | ⟨c4, hq⟩
    · refine jw_icmp_ne_f (tgt := 17) dX12_isNumeric_10 (by decide) c4 ?_
      refine jw_forget [false] (L' := [none]) rfl ?_
      exact l_X12_isNumeric_b13  hq
    · refine jw_icmp_ne_t (tgt := 17) dX12_isNumeric_10 (by decide) c4 ?_
      refine jw_iconst dX12_isNumeric_17 (v := (0 : Int32)) (by decide) ?_
      refine jw_forget [false] (L' := [none]) rfl ?_
      exact l_X12_isNumeric_b18  hq
  · refine jw_if_ne_t (tgt := 13) dX12_isNumeric_4 (by decide) c3 ?_
    refine jw_forget [false] (L' := [none]) rfl ?_
    exact l_X12_isNumeric_b13  hq

theorem c_X12_isNumeric {h : jw_H} {x0 : Int32} {r : Int32} {h' : jw_H} (hq : f_X12_isNumeric h x0 = some (r, h')) : jw_Con (Cond.code yX12_isNumeric cX12_isNumeric 1 (some .boolean)) yX12_isNumeric 1 [.int x0] h (.inl (some (.int r))) h' :=
  jw_con false (plainFor_of_name (by decide +kernel)) (fun z => nomatch z) (by simp [jw_ent, jw_sl0_nil, jw_sl0_int, jw_sl0_long, jw_sl0_ref, jw_sl0_rf, jw_sl0_scr, List.replicate]) (by simp [jw_sl0_nil, jw_sl0_int, jw_sl0_long, jw_sl0_ref, jw_sl0_rf, jw_sl0_scr]) (l_X12_isNumeric hq)


/-! X12_numericAt -/
noncomputable def g_X12_numericAt_b107 (k47 : jw_H → Nat → Int32 → Int32 → Option (Int32 × jw_H)) (h : jw_H) (x0 : Nat) (x3 : Int32) (t0 : Int32) (t1 : Int32) : Option (Int32 × jw_H) :=
 (jw_rc h 12 (some x0)).bind fun a1 =>
 jw_b2 (f_X12_behindNumber h a1 (x3 + (1 : Int32))) fun w3 h2 =>
 k47 h2 x0 (t0 + t1) w3

noncomputable def g_X12_numericAt_b77 (k47 : jw_H → Nat → Int32 → Int32 → Option (Int32 × jw_H)) (h : jw_H) (x0 : Nat) (x2 : Int32) (x3 : Int32) : Option (Int32 × jw_H) :=
 (jw_gR h 12 (some x0) 21).bind fun v1 =>
 (jw_ai h 20 v1 x3).bind fun v2 =>
 if v2 = (43 : Int32) then ((jw_rc h 12 (some x0)).bind fun a7 =>
 jw_b2 (f_X12_numberAt h a7 (x3 + (1 : Int32))) fun w9 h8 =>
 g_X12_numericAt_b107 k47 h8 x0 x3 x2 w9)
 else ((jw_rc h 12 (some x0)).bind fun a4 =>
 jw_b2 (f_X12_numberAt h a4 (x3 + (1 : Int32))) fun w6 h5 =>
 g_X12_numericAt_b107 k47 h5 x0 x3 x2 (-w6))

noncomputable def g_X12_numericAt_b47 (k47 : jw_H → Nat → Int32 → Int32 → Option (Int32 × jw_H)) (h : jw_H) (x0 : Nat) (x2 : Int32) (x3 : Int32) : Option (Int32 × jw_H) :=
 (jw_gI h 12 (some x0) 22).bind fun v1 =>
 if v1 ≤ x3 then (some (x2, h))
 else ((jw_gR h 12 (some x0) 21).bind fun v3 =>
 (jw_ai h 20 v3 x3).bind fun v4 =>
 if v4 = (43 : Int32) then (g_X12_numericAt_b77 k47 h x0 x2 x3)
 else ((jw_gR h 12 (some x0) 21).bind fun v6 =>
 (jw_ai h 20 v6 x3).bind fun v7 =>
 if v7 = (45 : Int32) then (g_X12_numericAt_b77 k47 h x0 x2 x3)
 else (some (x2, h))))

noncomputable def f_X12_numericAt_b47 (n : Nat) : jw_H → Nat → Int32 → Int32 → Option (Int32 × jw_H) :=
 Nat.rec (fun _ _ _ _ => none) (fun _ k47 => g_X12_numericAt_b47 k47) n

noncomputable def g_X12_numericAt_b46 (h : jw_H) (x0 : Nat) (x2 : Int32) (t0 : Int32) : Option (Int32 × jw_H) :=
 f_X12_numericAt_b47  jw_FU h x0 x2 t0

noncomputable def g_X12_numericAt_b23 (h : jw_H) (x0 : Nat) (x1 : Int32) (t0 : Int32) : Option (Int32 × jw_H) :=
 (jw_gR h 12 (some x0) 21).bind fun v1 =>
 (jw_ai h 20 v1 x1).bind fun v2 =>
 if v2 = (36 : Int32) then (g_X12_numericAt_b46  h x0 t0 (x1 + (1 : Int32)))
 else ((jw_rc h 12 (some x0)).bind fun a4 =>
 jw_b2 (f_X12_behindNumber h a4 x1) fun w6 h5 =>
 g_X12_numericAt_b46  h5 x0 t0 w6)

noncomputable def f_X12_numericAt (h : jw_H) (x0 : Nat) (x1 : Int32) : Option (Int32 × jw_H) :=
 (jw_gR h 12 (some x0) 21).bind fun v1 =>
 (jw_ai h 20 v1 x1).bind fun v2 =>
 if v2 = (36 : Int32) then ((jw_gI h 12 (some x0) 65).bind fun v7 =>
 g_X12_numericAt_b23  h x0 x1 v7)
 else ((jw_rc h 12 (some x0)).bind fun a4 =>
 jw_b2 (f_X12_numberAt h a4 x1) fun w6 h5 =>
 g_X12_numericAt_b23  h5 x0 x1 w6)

set_option maxRecDepth 100000 in
set_option maxHeartbeats 4000000 in
theorem l_X12_numericAt_b107 {hi : jw_H} {k47 : jw_H → Nat → Int32 → Int32 → Option (Int32 × jw_H)} (hk47 : ∀ (h : jw_H) (x0 : Nat) (x2 : Int32) (x3 : Int32) (r : Int32) (h' : jw_H), k47 h x0 x2 x3 = some (r, h') → jw_E 2 uX12_numericAt hi 47 [some (.ref x0), none, some (.int x2), some (.int x3)] [] h (.inl (some (.int r))) h') {h : jw_H} {x0 : Nat} {x3 : Int32} {t0 : Int32} {t1 : Int32} {r : Int32} {h' : jw_H} (hq : g_X12_numericAt_b107 k47 h x0 x3 t0 t1 = some (r, h')) : jw_E 2 uX12_numericAt hi 107 [some (.ref x0), none, none, some (.int x3)] [.int t1, .int t0] h (.inl (some (.int r))) h' := by
  unfold g_X12_numericAt_b107 at hq
  refine jw_iadd dX12_numericAt_107 ?_
  refine jw_istore_n (L' := [some (.ref x0), none, some (.int (t0 + t1)), some (.int x3)]) dX12_numericAt_108 (Nat.le_of_ble_eq_true rfl) rfl ?_
  refine jw_aload_n dX12_numericAt_109 (o := (some x0)) rfl ?_
  refine jw_iload_n dX12_numericAt_110 rfl ?_
  refine jw_iconst dX12_numericAt_111 (v := (1 : Int32)) (by decide) ?_
  refine jw_iadd dX12_numericAt_112 ?_
  obtain ⟨a1, ea1, hq⟩ := Option.bind_eq_some_iff.mp hq
  obtain ⟨eoa1, eta1⟩ := jw_rc_spec ea1
  obtain ⟨w3, h2, ew3, hq⟩ := jw_b2_spec hq
  refine jw_callV (As := [.int (x3 + (1 : Int32))]) (S := []) (a := a1) (v := some (.int w3)) dX12_numericAt_113 mt_X12_behindNumber in_X12_behindNumber se_X12_behindNumber lk_X12_304 (c_X12_behindNumber ew3) eta1 (by decide) rfl rfl (by decide) (Nat.le_of_ble_eq_true rfl) (by cases eoa1; rfl) ?_
  refine jw_istore_n (L' := [some (.ref x0), none, some (.int (t0 + t1)), some (.int w3)]) dX12_numericAt_116 (Nat.le_of_ble_eq_true rfl) rfl ?_
  refine jw_goto (tgt := 47) dX12_numericAt_117 (by decide) ?_
  exact hk47 _ _ _ _ _ _ hq

set_option maxRecDepth 100000 in
set_option maxHeartbeats 4000000 in
theorem l_X12_numericAt_b77 {hi : jw_H} {k47 : jw_H → Nat → Int32 → Int32 → Option (Int32 × jw_H)} (hk47 : ∀ (h : jw_H) (x0 : Nat) (x2 : Int32) (x3 : Int32) (r : Int32) (h' : jw_H), k47 h x0 x2 x3 = some (r, h') → jw_E 2 uX12_numericAt hi 47 [some (.ref x0), none, some (.int x2), some (.int x3)] [] h (.inl (some (.int r))) h') {h : jw_H} {x0 : Nat} {x2 : Int32} {x3 : Int32} {r : Int32} {h' : jw_H} (hq : g_X12_numericAt_b77 k47 h x0 x2 x3 = some (r, h')) : jw_E 2 uX12_numericAt hi 77 [some (.ref x0), none, some (.int x2), some (.int x3)] [] h (.inl (some (.int r))) h' := by
  unfold g_X12_numericAt_b77 at hq
  refine jw_iload_n dX12_numericAt_77 rfl ?_
  refine jw_aload_n dX12_numericAt_78 (o := (some x0)) rfl ?_
  obtain ⟨v1, ev1, hq⟩ := Option.bind_eq_some_iff.mp hq
  refine jw_getR (o := (some x0)) dX12_numericAt_79 ev1 fl_X12_44 rfl ?_
  refine jw_iload_n dX12_numericAt_82 rfl ?_
  obtain ⟨v2, ev2, hq⟩ := Option.bind_eq_some_iff.mp hq
  refine jw_iald (o := v1) dX12_numericAt_83 ev2 ?_
  refine jw_bipush dX12_numericAt_84 (v := (43 : Int32)) (by decide) ?_
  rcases jw_if hq with ⟨c3, hq⟩ | ⟨c3, hq⟩
  · refine jw_icmp_ne_f (tgt := 99) dX12_numericAt_86 (by decide) c3 ?_
    refine jw_aload_n dX12_numericAt_89 (o := (some x0)) rfl ?_
    refine jw_iload_n dX12_numericAt_90 rfl ?_
    refine jw_iconst dX12_numericAt_91 (v := (1 : Int32)) (by decide) ?_
    refine jw_iadd dX12_numericAt_92 ?_
    obtain ⟨a7, ea7, hq⟩ := Option.bind_eq_some_iff.mp hq
    obtain ⟨eoa7, eta7⟩ := jw_rc_spec ea7
    obtain ⟨w9, h8, ew9, hq⟩ := jw_b2_spec hq
    refine jw_callV (As := [.int (x3 + (1 : Int32))]) (S := [.int x2]) (a := a7) (v := some (.int w9)) dX12_numericAt_93 mt_X12_numberAt in_X12_numberAt se_X12_numberAt lk_X12_301 (c_X12_numberAt ew9) eta7 (by decide) rfl rfl (by decide) (Nat.le_of_ble_eq_true rfl) (by cases eoa7; rfl) ?_
    refine jw_goto (tgt := 107) dX12_numericAt_96 (by decide) ?_
    refine jw_forget [true, true, false, true] (L' := [some (.ref x0), none, none, some (.int x3)]) rfl ?_
    exact l_X12_numericAt_b107 hk47 hq
  · refine jw_icmp_ne_t (tgt := 99) dX12_numericAt_86 (by decide) c3 ?_
    refine jw_aload_n dX12_numericAt_99 (o := (some x0)) rfl ?_
    refine jw_iload_n dX12_numericAt_100 rfl ?_
    refine jw_iconst dX12_numericAt_101 (v := (1 : Int32)) (by decide) ?_
    refine jw_iadd dX12_numericAt_102 ?_
    obtain ⟨a4, ea4, hq⟩ := Option.bind_eq_some_iff.mp hq
    obtain ⟨eoa4, eta4⟩ := jw_rc_spec ea4
    obtain ⟨w6, h5, ew6, hq⟩ := jw_b2_spec hq
    refine jw_callV (As := [.int (x3 + (1 : Int32))]) (S := [.int x2]) (a := a4) (v := some (.int w6)) dX12_numericAt_103 mt_X12_numberAt in_X12_numberAt se_X12_numberAt lk_X12_301 (c_X12_numberAt ew6) eta4 (by decide) rfl rfl (by decide) (Nat.le_of_ble_eq_true rfl) (by cases eoa4; rfl) ?_
    refine jw_ineg dX12_numericAt_106 ?_
    refine jw_forget [true, true, false, true] (L' := [some (.ref x0), none, none, some (.int x3)]) rfl ?_
    exact l_X12_numericAt_b107 hk47 hq

set_option maxRecDepth 100000 in
set_option maxHeartbeats 4000000 in
theorem l_X12_numericAt_b47g {hi : jw_H} {k47 : jw_H → Nat → Int32 → Int32 → Option (Int32 × jw_H)} (hk47 : ∀ (h : jw_H) (x0 : Nat) (x2 : Int32) (x3 : Int32) (r : Int32) (h' : jw_H), k47 h x0 x2 x3 = some (r, h') → jw_E 2 uX12_numericAt hi 47 [some (.ref x0), none, some (.int x2), some (.int x3)] [] h (.inl (some (.int r))) h') {h : jw_H} {x0 : Nat} {x2 : Int32} {x3 : Int32} {r : Int32} {h' : jw_H} (hq : g_X12_numericAt_b47 k47 h x0 x2 x3 = some (r, h')) : jw_E 2 uX12_numericAt hi 47 [some (.ref x0), none, some (.int x2), some (.int x3)] [] h (.inl (some (.int r))) h' := by
  unfold g_X12_numericAt_b47 at hq
  refine jw_iload_n dX12_numericAt_47 rfl ?_
  refine jw_aload_n dX12_numericAt_48 (o := (some x0)) rfl ?_
  obtain ⟨v1, ev1, hq⟩ := Option.bind_eq_some_iff.mp hq
  refine jw_getI (o := (some x0)) dX12_numericAt_49 ev1 fl_X12_146 rfl ?_
  rcases jw_if hq with ⟨c2, hq⟩ | ⟨c2, hq⟩
  · refine jw_icmp_ge_t (tgt := 120) dX12_numericAt_52 (by decide) c2 ?_
    refine jw_iload_n dX12_numericAt_120 rfl ?_
    cases hq
    exact jw_iret (ty := .int) dX12_numericAt_121 rfl rfl
  · refine jw_icmp_ge_f (tgt := 120) dX12_numericAt_52 (by decide) c2 ?_
    refine jw_aload_n dX12_numericAt_55 (o := (some x0)) rfl ?_
    obtain ⟨v3, ev3, hq⟩ := Option.bind_eq_some_iff.mp hq
    refine jw_getR (o := (some x0)) dX12_numericAt_56 ev3 fl_X12_44 rfl ?_
    refine jw_iload_n dX12_numericAt_59 rfl ?_
    obtain ⟨v4, ev4, hq⟩ := Option.bind_eq_some_iff.mp hq
    refine jw_iald (o := v3) dX12_numericAt_60 ev4 ?_
    refine jw_bipush dX12_numericAt_61 (v := (43 : Int32)) (by decide) ?_
    rcases jw_if hq with ⟨c5, hq⟩ | ⟨c5, hq⟩
    · refine jw_icmp_eq_t (tgt := 77) dX12_numericAt_63 (by decide) c5 ?_
      exact l_X12_numericAt_b77 hk47 hq
    · refine jw_icmp_eq_f (tgt := 77) dX12_numericAt_63 (by decide) c5 ?_
      refine jw_aload_n dX12_numericAt_66 (o := (some x0)) rfl ?_
      obtain ⟨v6, ev6, hq⟩ := Option.bind_eq_some_iff.mp hq
      refine jw_getR (o := (some x0)) dX12_numericAt_67 ev6 fl_X12_44 rfl ?_
      refine jw_iload_n dX12_numericAt_70 rfl ?_
      obtain ⟨v7, ev7, hq⟩ := Option.bind_eq_some_iff.mp hq
      refine jw_iald (o := v6) dX12_numericAt_71 ev7 ?_
      refine jw_bipush dX12_numericAt_72 (v := (45 : Int32)) (by decide) ?_
      rcases jw_if hq with ⟨c8, hq⟩ | ⟨c8, hq⟩
      · refine jw_icmp_ne_f (tgt := 120) dX12_numericAt_74 (by decide) c8 ?_
        exact l_X12_numericAt_b77 hk47 hq
      · refine jw_icmp_ne_t (tgt := 120) dX12_numericAt_74 (by decide) c8 ?_
        refine jw_iload_n dX12_numericAt_120 rfl ?_
        cases hq
        exact jw_iret (ty := .int) dX12_numericAt_121 rfl rfl

theorem l_X12_numericAt_b47 {hi : jw_H} : ∀ (n : Nat) (h : jw_H) (x0 : Nat) (x2 : Int32) (x3 : Int32) (r : Int32) (h' : jw_H), f_X12_numericAt_b47  n h x0 x2 x3 = some (r, h') → jw_E 2 uX12_numericAt hi 47 [some (.ref x0), none, some (.int x2), some (.int x3)] [] h (.inl (some (.int r))) h' := by
  intro n
  induction n with
  | zero => intro h x0 x2 x3 r h' hq; exact nomatch hq
  | succ n ih => intro h x0 x2 x3 r h' hq; exact l_X12_numericAt_b47g ih hq

set_option maxRecDepth 100000 in
set_option maxHeartbeats 4000000 in
theorem l_X12_numericAt_b46 {hi : jw_H} {h : jw_H} {x0 : Nat} {x2 : Int32} {t0 : Int32} {r : Int32} {h' : jw_H} (hq : g_X12_numericAt_b46  h x0 x2 t0 = some (r, h')) : jw_E 2 uX12_numericAt hi 46 [some (.ref x0), none, some (.int x2), none] [.int t0] h (.inl (some (.int r))) h' := by
  unfold g_X12_numericAt_b46 at hq
  refine jw_istore_n (L' := [some (.ref x0), none, some (.int x2), some (.int t0)]) dX12_numericAt_46 (Nat.le_of_ble_eq_true rfl) rfl ?_
  exact l_X12_numericAt_b47  jw_FU _ _ _ _ _ _ hq

set_option maxRecDepth 100000 in
set_option maxHeartbeats 4000000 in
theorem l_X12_numericAt_b23 {hi : jw_H} {h : jw_H} {x0 : Nat} {x1 : Int32} {t0 : Int32} {r : Int32} {h' : jw_H} (hq : g_X12_numericAt_b23  h x0 x1 t0 = some (r, h')) : jw_E 2 uX12_numericAt hi 23 [some (.ref x0), some (.int x1), none, none] [.int t0] h (.inl (some (.int r))) h' := by
  unfold g_X12_numericAt_b23 at hq
  refine jw_istore_n (L' := [some (.ref x0), some (.int x1), some (.int t0), none]) dX12_numericAt_23 (Nat.le_of_ble_eq_true rfl) rfl ?_
  refine jw_aload_n dX12_numericAt_24 (o := (some x0)) rfl ?_
  obtain ⟨v1, ev1, hq⟩ := Option.bind_eq_some_iff.mp hq
  refine jw_getR (o := (some x0)) dX12_numericAt_25 ev1 fl_X12_44 rfl ?_
  refine jw_iload_n dX12_numericAt_28 rfl ?_
  obtain ⟨v2, ev2, hq⟩ := Option.bind_eq_some_iff.mp hq
  refine jw_iald (o := v1) dX12_numericAt_29 ev2 ?_
  refine jw_bipush dX12_numericAt_30 (v := (36 : Int32)) (by decide) ?_
  rcases jw_if hq with ⟨c3, hq⟩ | ⟨c3, hq⟩
  · refine jw_icmp_ne_f (tgt := 41) dX12_numericAt_32 (by decide) c3 ?_
    refine jw_iload_n dX12_numericAt_35 rfl ?_
    refine jw_iconst dX12_numericAt_36 (v := (1 : Int32)) (by decide) ?_
    refine jw_iadd dX12_numericAt_37 ?_
    refine jw_goto (tgt := 46) dX12_numericAt_38 (by decide) ?_
    refine jw_forget [true, false, true, true] (L' := [some (.ref x0), none, some (.int t0), none]) rfl ?_
    exact l_X12_numericAt_b46  hq
  · refine jw_icmp_ne_t (tgt := 41) dX12_numericAt_32 (by decide) c3 ?_
    refine jw_aload_n dX12_numericAt_41 (o := (some x0)) rfl ?_
    refine jw_iload_n dX12_numericAt_42 rfl ?_
    obtain ⟨a4, ea4, hq⟩ := Option.bind_eq_some_iff.mp hq
    obtain ⟨eoa4, eta4⟩ := jw_rc_spec ea4
    obtain ⟨w6, h5, ew6, hq⟩ := jw_b2_spec hq
    refine jw_callV (As := [.int x1]) (S := []) (a := a4) (v := some (.int w6)) dX12_numericAt_43 mt_X12_behindNumber in_X12_behindNumber se_X12_behindNumber lk_X12_304 (c_X12_behindNumber ew6) eta4 (by decide) rfl rfl (by decide) (Nat.le_of_ble_eq_true rfl) (by cases eoa4; rfl) ?_
    refine jw_forget [true, false, true, true] (L' := [some (.ref x0), none, some (.int t0), none]) rfl ?_
    exact l_X12_numericAt_b46  hq

set_option maxRecDepth 100000 in
set_option maxHeartbeats 4000000 in
theorem l_X12_numericAt {hi : jw_H} {h : jw_H} {x0 : Nat} {x1 : Int32} {r : Int32} {h' : jw_H} (hq : f_X12_numericAt  h x0 x1 = some (r, h')) : jw_E 2 uX12_numericAt hi 0 [some (.ref x0), some (.int x1), none, none] [] h (.inl (some (.int r))) h' := by
  unfold f_X12_numericAt at hq
  refine jw_aload_n dX12_numericAt_0 (o := (some x0)) rfl ?_
  obtain ⟨v1, ev1, hq⟩ := Option.bind_eq_some_iff.mp hq
  refine jw_getR (o := (some x0)) dX12_numericAt_1 ev1 fl_X12_44 rfl ?_
  refine jw_iload_n dX12_numericAt_4 rfl ?_
  obtain ⟨v2, ev2, hq⟩ := Option.bind_eq_some_iff.mp hq
  refine jw_iald (o := v1) dX12_numericAt_5 ev2 ?_
  refine jw_bipush dX12_numericAt_6 (v := (36 : Int32)) (by decide) ?_
  rcases jw_if hq with ⟨c3, hq⟩ | ⟨c3, hq⟩
  · refine jw_icmp_ne_f (tgt := 18) dX12_numericAt_8 (by decide) c3 ?_
    refine jw_aload_n dX12_numericAt_11 (o := (some x0)) rfl ?_
    obtain ⟨v7, ev7, hq⟩ := Option.bind_eq_some_iff.mp hq
    refine jw_getI (o := (some x0)) dX12_numericAt_12 ev7 fl_X12_563 rfl ?_
    refine jw_goto (tgt := 23) dX12_numericAt_15 (by decide) ?_
    exact l_X12_numericAt_b23  hq
  · refine jw_icmp_ne_t (tgt := 18) dX12_numericAt_8 (by decide) c3 ?_
    refine jw_aload_n dX12_numericAt_18 (o := (some x0)) rfl ?_
    refine jw_iload_n dX12_numericAt_19 rfl ?_
    obtain ⟨a4, ea4, hq⟩ := Option.bind_eq_some_iff.mp hq
    obtain ⟨eoa4, eta4⟩ := jw_rc_spec ea4
    obtain ⟨w6, h5, ew6, hq⟩ := jw_b2_spec hq
    refine jw_callV (As := [.int x1]) (S := []) (a := a4) (v := some (.int w6)) dX12_numericAt_20 mt_X12_numberAt in_X12_numberAt se_X12_numberAt lk_X12_301 (c_X12_numberAt ew6) eta4 (by decide) rfl rfl (by decide) (Nat.le_of_ble_eq_true rfl) (by cases eoa4; rfl) ?_
    exact l_X12_numericAt_b23  hq

theorem c_X12_numericAt {h : jw_H} {x0 : Nat} {x1 : Int32} {r : Int32} {h' : jw_H} (hq : f_X12_numericAt h x0 x1 = some (r, h')) : jw_Con (Cond.code yX12_numericAt cX12_numericAt 4 (some .int)) yX12_numericAt 2 [.ref x0, .int x1] h (.inl (some (.int r))) h' :=
  jw_con false (plainFor_of_name (by decide +kernel)) (fun z => nomatch z) (by simp [jw_ent, jw_sl0_nil, jw_sl0_int, jw_sl0_long, jw_sl0_ref, jw_sl0_rf, jw_sl0_scr, List.replicate]) (by simp [jw_sl0_nil, jw_sl0_int, jw_sl0_long, jw_sl0_ref, jw_sl0_rf, jw_sl0_scr]) (l_X12_numericAt hq)


/-! X12_holds -/
noncomputable def g_X12_holds_b31 (h : jw_H) (t0 : Int32) : Option (Int32 × jw_H) :=
 (jw_rb t0).bind fun v1 =>
 some (t0, h)

noncomputable def g_X12_holds_b66 (h : jw_H) (t0 : Int32) : Option (Int32 × jw_H) :=
 (jw_rb t0).bind fun v1 =>
 some (t0, h)

noncomputable def f_X12_holds (h : jw_H) (x0 : Nat) (x1 : Int32) : Option (Int32 × jw_H) :=
 (jw_gR h 12 (some x0) 21).bind fun v1 =>
 (jw_ai h 20 v1 x1).bind fun v2 =>
 jw_b2 (f_X12_isNumeric h v2) fun w4 h3 =>
 if w4 = 0 then (if v2 = (39 : Int32) then ((jw_gR h3 12 (some x0) 10).bind fun v15 =>
 (jw_gR h3 12 (some x0) 21).bind fun v16 =>
 (jw_ai h3 20 v16 (x1 + (1 : Int32))).bind fun v17 =>
 (jw_ai h3 20 v15 (v17 - (97 : Int32))).bind fun v18 =>
 (jw_gI h3 12 (some x0) 67).bind fun v19 =>
 if v18 = v19 then (g_X12_holds_b66  h3 (1 : Int32))
 else (g_X12_holds_b66  h3 (0 : Int32)))
 else (if v2 = (46 : Int32) then (some ((1 : Int32), h3))
 else ((jw_rc h3 12 (some x0)).bind fun a8 =>
 jw_b2 (f_X12_compile h3 a8 (x1 + (1 : Int32)) v2) fun w10 h9 =>
 (jw_rc h9 12 (some x0)).bind fun a11 =>
 jw_b2 (f_X12_finds h9 a11 (429 : Int32) (0 : Int32)) fun w13 h12 =>
 (jw_rb w13).bind fun v14 =>
 some (w13, h12))))
 else ((jw_gI h3 12 (some x0) 68).bind fun v21 =>
 (jw_rc h3 12 (some x0)).bind fun a22 =>
 jw_b2 (f_X12_numericAt h3 a22 x1) fun w24 h23 =>
 if v21 = w24 then (g_X12_holds_b31  h23 (1 : Int32))
 else (g_X12_holds_b31  h23 (0 : Int32)))

set_option maxRecDepth 100000 in
set_option maxHeartbeats 4000000 in
theorem l_X12_holds_b31 {hi : jw_H} {h : jw_H} {t0 : Int32} {r : Int32} {h' : jw_H} (hq : g_X12_holds_b31  h t0 = some (r, h')) : jw_E 5 uX12_holds hi 31 [none, none, none] [.int t0] h (.inl (some (.int r))) h' := by
  unfold g_X12_holds_b31 at hq
  obtain ⟨v1, ev1, hq⟩ := Option.bind_eq_some_iff.mp hq
  cases hq
  exact jw_iret (ty := .boolean) dX12_holds_31 rfl (jw_rb_spec ev1)

set_option maxRecDepth 100000 in
set_option maxHeartbeats 4000000 in
theorem l_X12_holds_b66 {hi : jw_H} {h : jw_H} {t0 : Int32} {r : Int32} {h' : jw_H} (hq : g_X12_holds_b66  h t0 = some (r, h')) : jw_E 5 uX12_holds hi 66 [none, none, none] [.int t0] h (.inl (some (.int r))) h' := by
  unfold g_X12_holds_b66 at hq
  obtain ⟨v1, ev1, hq⟩ := Option.bind_eq_some_iff.mp hq
  cases hq
  exact jw_iret (ty := .boolean) dX12_holds_66 rfl (jw_rb_spec ev1)

set_option maxRecDepth 100000 in
set_option maxHeartbeats 4000000 in
theorem l_X12_holds {hi : jw_H} {h : jw_H} {x0 : Nat} {x1 : Int32} {r : Int32} {h' : jw_H} (hq : f_X12_holds  h x0 x1 = some (r, h')) : jw_E 5 uX12_holds hi 0 [some (.ref x0), some (.int x1), none] [] h (.inl (some (.int r))) h' := by
  unfold f_X12_holds at hq
  refine jw_aload_n dX12_holds_0 (o := (some x0)) rfl ?_
  obtain ⟨v1, ev1, hq⟩ := Option.bind_eq_some_iff.mp hq
  refine jw_getR (o := (some x0)) dX12_holds_1 ev1 fl_X12_44 rfl ?_
  refine jw_iload_n dX12_holds_4 rfl ?_
  obtain ⟨v2, ev2, hq⟩ := Option.bind_eq_some_iff.mp hq
  refine jw_iald (o := v1) dX12_holds_5 ev2 ?_
  refine jw_istore_n (L' := [some (.ref x0), some (.int x1), some (.int v2)]) dX12_holds_6 (Nat.le_of_ble_eq_true rfl) rfl ?_
  refine jw_iload_n dX12_holds_7 rfl ?_
  obtain ⟨w4, h3, ew4, hq⟩ := jw_b2_spec hq
  refine jw_callS (As := [.int v2]) (S := []) (v := some (.int w4)) dX12_holds_8 mt_X12_isNumeric st_X12_isNumeric lk_X12_566 (c_X12_isNumeric ew4) rfl (by decide) (Nat.le_of_ble_eq_true rfl) rfl ?_
  rcases jw_if hq with ⟨c5, hq⟩ | ⟨c5, hq⟩
  · refine jw_if_eq_t (tgt := 32) dX12_holds_11 (by decide) c5 ?_
    refine jw_iload_n dX12_holds_32 rfl ?_
    refine jw_bipush dX12_holds_33 (v := (39 : Int32)) (by decide) ?_
    rcases jw_if hq with ⟨c6, hq⟩ | ⟨c6, hq⟩
    · refine jw_icmp_ne_f (tgt := 67) dX12_holds_35 (by decide) c6 ?_
      refine jw_aload_n dX12_holds_38 (o := (some x0)) rfl ?_
      obtain ⟨v15, ev15, hq⟩ := Option.bind_eq_some_iff.mp hq
      refine jw_getR (o := (some x0)) dX12_holds_39 ev15 fl_X12_35 rfl ?_
      refine jw_aload_n dX12_holds_42 (o := (some x0)) rfl ?_
      obtain ⟨v16, ev16, hq⟩ := Option.bind_eq_some_iff.mp hq
      refine jw_getR (o := (some x0)) dX12_holds_43 ev16 fl_X12_44 rfl ?_
      refine jw_iload_n dX12_holds_46 rfl ?_
      refine jw_iconst dX12_holds_47 (v := (1 : Int32)) (by decide) ?_
      refine jw_iadd dX12_holds_48 ?_
      obtain ⟨v17, ev17, hq⟩ := Option.bind_eq_some_iff.mp hq
      refine jw_iald (o := v16) dX12_holds_49 ev17 ?_
      refine jw_bipush dX12_holds_50 (v := (97 : Int32)) (by decide) ?_
      refine jw_isub dX12_holds_52 ?_
      obtain ⟨v18, ev18, hq⟩ := Option.bind_eq_some_iff.mp hq
      refine jw_iald (o := v15) dX12_holds_53 ev18 ?_
      refine jw_aload_n dX12_holds_54 (o := (some x0)) rfl ?_
      obtain ⟨v19, ev19, hq⟩ := Option.bind_eq_some_iff.mp hq
      refine jw_getI (o := (some x0)) dX12_holds_55 ev19 fl_X12_548 rfl ?_
      rcases jw_if hq with ⟨c20, hq⟩ | ⟨c20, hq⟩
      · refine jw_icmp_ne_f (tgt := 65) dX12_holds_58 (by decide) c20 ?_
        refine jw_iconst dX12_holds_61 (v := (1 : Int32)) (by decide) ?_
        refine jw_goto (tgt := 66) dX12_holds_62 (by decide) ?_
        refine jw_forget [false, false, false] (L' := [none, none, none]) rfl ?_
        exact l_X12_holds_b66  hq
      · refine jw_icmp_ne_t (tgt := 65) dX12_holds_58 (by decide) c20 ?_
        refine jw_iconst dX12_holds_65 (v := (0 : Int32)) (by decide) ?_
        refine jw_forget [false, false, false] (L' := [none, none, none]) rfl ?_
        exact l_X12_holds_b66  hq
    · refine jw_icmp_ne_t (tgt := 67) dX12_holds_35 (by decide) c6 ?_
      refine jw_iload_n dX12_holds_67 rfl ?_
      refine jw_bipush dX12_holds_68 (v := (46 : Int32)) (by decide) ?_
      rcases jw_if hq with ⟨c7, hq⟩ | ⟨c7, hq⟩
      · refine jw_icmp_ne_f (tgt := 75) dX12_holds_70 (by decide) c7 ?_
        refine jw_iconst dX12_holds_73 (v := (1 : Int32)) (by decide) ?_
        cases hq
        exact jw_iret (ty := .boolean) dX12_holds_74 rfl rfl
      · refine jw_icmp_ne_t (tgt := 75) dX12_holds_70 (by decide) c7 ?_
        refine jw_aload_n dX12_holds_75 (o := (some x0)) rfl ?_
        refine jw_iload_n dX12_holds_76 rfl ?_
        refine jw_iconst dX12_holds_77 (v := (1 : Int32)) (by decide) ?_
        refine jw_iadd dX12_holds_78 ?_
        refine jw_iload_n dX12_holds_79 rfl ?_
        obtain ⟨a8, ea8, hq⟩ := Option.bind_eq_some_iff.mp hq
        obtain ⟨eoa8, eta8⟩ := jw_rc_spec ea8
        obtain ⟨w10, h9, ew10, hq⟩ := jw_b2_spec hq
        refine jw_callV (As := [.int (x1 + (1 : Int32)), .int v2]) (S := []) (a := a8) (v := none) dX12_holds_80 mt_X12_compile in_X12_compile se_X12_compile lk_X12_310 (c_X12_compile ew10) eta8 (by decide) rfl rfl (by decide) (Nat.le_of_ble_eq_true rfl) (by cases eoa8; rfl) ?_
        refine jw_aload_n dX12_holds_83 (o := (some x0)) rfl ?_
        refine jw_sipush dX12_holds_84 (v := (429 : Int32)) (by decide) ?_
        refine jw_iconst dX12_holds_87 (v := (0 : Int32)) (by decide) ?_
        obtain ⟨a11, ea11, hq⟩ := Option.bind_eq_some_iff.mp hq
        obtain ⟨eoa11, eta11⟩ := jw_rc_spec ea11
        obtain ⟨w13, h12, ew13, hq⟩ := jw_b2_spec hq
        refine jw_callV (As := [.int (429 : Int32), .int (0 : Int32)]) (S := []) (a := a11) (v := some (.int w13)) dX12_holds_88 mt_X12_finds in_X12_finds se_X12_finds lk_X12_292 (c_X12_finds ew13) eta11 (by decide) rfl rfl (by decide) (Nat.le_of_ble_eq_true rfl) (by cases eoa11; rfl) ?_
        obtain ⟨v14, ev14, hq⟩ := Option.bind_eq_some_iff.mp hq
        cases hq
        exact jw_iret (ty := .boolean) dX12_holds_91 rfl (jw_rb_spec ev14)
  · refine jw_if_eq_f (tgt := 32) dX12_holds_11 (by decide) c5 ?_
    refine jw_aload_n dX12_holds_14 (o := (some x0)) rfl ?_
    obtain ⟨v21, ev21, hq⟩ := Option.bind_eq_some_iff.mp hq
    refine jw_getI (o := (some x0)) dX12_holds_15 ev21 fl_X12_551 rfl ?_
    refine jw_aload_n dX12_holds_18 (o := (some x0)) rfl ?_
    refine jw_iload_n dX12_holds_19 rfl ?_
    obtain ⟨a22, ea22, hq⟩ := Option.bind_eq_some_iff.mp hq
    obtain ⟨eoa22, eta22⟩ := jw_rc_spec ea22
    obtain ⟨w24, h23, ew24, hq⟩ := jw_b2_spec hq
    refine jw_callV (As := [.int x1]) (S := [.int v21]) (a := a22) (v := some (.int w24)) dX12_holds_20 mt_X12_numericAt in_X12_numericAt se_X12_numericAt lk_X12_569 (c_X12_numericAt ew24) eta22 (by decide) rfl rfl (by decide) (Nat.le_of_ble_eq_true rfl) (by cases eoa22; rfl) ?_
    rcases jw_if hq with ⟨c25, hq⟩ | ⟨c25, hq⟩
    · refine jw_icmp_ne_f (tgt := 30) dX12_holds_23 (by decide) c25 ?_
      refine jw_iconst dX12_holds_26 (v := (1 : Int32)) (by decide) ?_
      refine jw_goto (tgt := 31) dX12_holds_27 (by decide) ?_
      refine jw_forget [false, false, false] (L' := [none, none, none]) rfl ?_
      exact l_X12_holds_b31  hq
    · refine jw_icmp_ne_t (tgt := 30) dX12_holds_23 (by decide) c25 ?_
      refine jw_iconst dX12_holds_30 (v := (0 : Int32)) (by decide) ?_
      refine jw_forget [false, false, false] (L' := [none, none, none]) rfl ?_
      exact l_X12_holds_b31  hq

theorem c_X12_holds {h : jw_H} {x0 : Nat} {x1 : Int32} {r : Int32} {h' : jw_H} (hq : f_X12_holds h x0 x1 = some (r, h')) : jw_Con (Cond.code yX12_holds cX12_holds 3 (some .boolean)) yX12_holds 5 [.ref x0, .int x1] h (.inl (some (.int r))) h' :=
  jw_con false (plainFor_of_name (by decide +kernel)) (fun z => nomatch z) (by simp [jw_ent, jw_sl0_nil, jw_sl0_int, jw_sl0_long, jw_sl0_ref, jw_sl0_rf, jw_sl0_scr, List.replicate]) (by simp [jw_sl0_nil, jw_sl0_int, jw_sl0_long, jw_sl0_ref, jw_sl0_rf, jw_sl0_scr]) (l_X12_holds hq)


/-! X12_isBarredAddress -/
noncomputable def g_X12_isBarredAddress_b89 (h : jw_H) (t0 : Int32) : Option (Int32 × jw_H) :=
 (jw_rb t0).bind fun v1 =>
 some (t0, h)

noncomputable def g_X12_isBarredAddress_b84 (h : jw_H)  : Option (Int32 × jw_H) :=
 g_X12_isBarredAddress_b89  h (1 : Int32)

noncomputable def g_X12_isBarredAddress_b88 (h : jw_H)  : Option (Int32 × jw_H) :=
 g_X12_isBarredAddress_b89  h (0 : Int32)

noncomputable def g_X12_isBarredAddress_b54 (h : jw_H) (x0 : Nat) (x3 : Int32) : Option (Int32 × jw_H) :=
 (jw_gI h 12 (some x0) 22).bind fun v1 =>
 if v1 ≤ x3 then (g_X12_isBarredAddress_b88  h )
 else ((jw_gR h 12 (some x0) 21).bind fun v3 =>
 (jw_ai h 20 v3 x3).bind fun v4 =>
 if v4 = (43 : Int32) then (g_X12_isBarredAddress_b84  h )
 else ((jw_gR h 12 (some x0) 21).bind fun v6 =>
 (jw_ai h 20 v6 x3).bind fun v7 =>
 if v7 = (45 : Int32) then (g_X12_isBarredAddress_b84  h )
 else (g_X12_isBarredAddress_b88  h )))

noncomputable def f_X12_isBarredAddress (h : jw_H) (x0 : Nat) (x1 : Int32) : Option (Int32 × jw_H) :=
 (jw_gR h 12 (some x0) 21).bind fun v1 =>
 (jw_ai h 20 v1 x1).bind fun v2 =>
 jw_b2 (f_X12_isNumeric h v2) fun w4 h3 =>
 if w4 = 0 then (if v2 = (39 : Int32) then (g_X12_isBarredAddress_b54  h3 x0 (x1 + (2 : Int32)))
 else (if v2 = (46 : Int32) then (g_X12_isBarredAddress_b54  h3 x0 (x1 + (1 : Int32)))
 else ((jw_rc h3 12 (some x0)).bind fun a8 =>
 jw_b2 (f_X12_compile h3 a8 (x1 + (1 : Int32)) v2) fun w10 h9 =>
 (jw_gI h9 12 (some x0) 37).bind fun v11 =>
 g_X12_isBarredAddress_b54  h9 x0 (v11 + (1 : Int32)))))
 else (some ((0 : Int32), h3))

set_option maxRecDepth 100000 in
set_option maxHeartbeats 4000000 in
theorem l_X12_isBarredAddress_b89 {hi : jw_H} {h : jw_H} {t0 : Int32} {r : Int32} {h' : jw_H} (hq : g_X12_isBarredAddress_b89  h t0 = some (r, h')) : jw_E 2 uX12_isBarredAddress hi 89 [none, none, none, none] [.int t0] h (.inl (some (.int r))) h' := by
  unfold g_X12_isBarredAddress_b89 at hq
  obtain ⟨v1, ev1, hq⟩ := Option.bind_eq_some_iff.mp hq
  cases hq
  exact jw_iret (ty := .boolean) dX12_isBarredAddress_89 rfl (jw_rb_spec ev1)

set_option maxRecDepth 100000 in
set_option maxHeartbeats 4000000 in
theorem l_X12_isBarredAddress_b84 {hi : jw_H} {h : jw_H}  {r : Int32} {h' : jw_H} (hq : g_X12_isBarredAddress_b84  h  = some (r, h')) : jw_E 2 uX12_isBarredAddress hi 84 [none, none, none, none] [] h (.inl (some (.int r))) h' := by
  unfold g_X12_isBarredAddress_b84 at hq
  refine jw_iconst dX12_isBarredAddress_84 (v := (1 : Int32)) (by decide) ?_
  refine jw_goto (tgt := 89) dX12_isBarredAddress_85 (by decide) ?_
  exact l_X12_isBarredAddress_b89  hq

set_option maxRecDepth 100000 in
set_option maxHeartbeats 4000000 in
theorem l_X12_isBarredAddress_b88 {hi : jw_H} {h : jw_H}  {r : Int32} {h' : jw_H} (hq : g_X12_isBarredAddress_b88  h  = some (r, h')) : jw_E 2 uX12_isBarredAddress hi 88 [none, none, none, none] [] h (.inl (some (.int r))) h' := by
  unfold g_X12_isBarredAddress_b88 at hq
  refine jw_iconst dX12_isBarredAddress_88 (v := (0 : Int32)) (by decide) ?_
  exact l_X12_isBarredAddress_b89  hq

set_option maxRecDepth 100000 in
set_option maxHeartbeats 4000000 in
theorem l_X12_isBarredAddress_b54 {hi : jw_H} {h : jw_H} {x0 : Nat} {x3 : Int32} {r : Int32} {h' : jw_H} (hq : g_X12_isBarredAddress_b54  h x0 x3 = some (r, h')) : jw_E 2 uX12_isBarredAddress hi 54 [some (.ref x0), none, none, some (.int x3)] [] h (.inl (some (.int r))) h' := by
  unfold g_X12_isBarredAddress_b54 at hq
  refine jw_iload_n dX12_isBarredAddress_54 rfl ?_
  refine jw_aload_n dX12_isBarredAddress_55 (o := (some x0)) rfl ?_
  obtain ⟨v1, ev1, hq⟩ := Option.bind_eq_some_iff.mp hq
  refine jw_getI (o := (some x0)) dX12_isBarredAddress_56 ev1 fl_X12_146 rfl ?_
  rcases jw_if hq with ⟨c2, hq⟩ | ⟨c2, hq⟩
  · refine jw_icmp_ge_t (tgt := 88) dX12_isBarredAddress_59 (by decide) c2 ?_
    refine jw_forget [false, true, true, false] (L' := [none, none, none, none]) rfl ?_
    exact l_X12_isBarredAddress_b88  hq
  · refine jw_icmp_ge_f (tgt := 88) dX12_isBarredAddress_59 (by decide) c2 ?_
    refine jw_aload_n dX12_isBarredAddress_62 (o := (some x0)) rfl ?_
    obtain ⟨v3, ev3, hq⟩ := Option.bind_eq_some_iff.mp hq
    refine jw_getR (o := (some x0)) dX12_isBarredAddress_63 ev3 fl_X12_44 rfl ?_
    refine jw_iload_n dX12_isBarredAddress_66 rfl ?_
    obtain ⟨v4, ev4, hq⟩ := Option.bind_eq_some_iff.mp hq
    refine jw_iald (o := v3) dX12_isBarredAddress_67 ev4 ?_
    refine jw_bipush dX12_isBarredAddress_68 (v := (43 : Int32)) (by decide) ?_
    rcases jw_if hq with ⟨c5, hq⟩ | ⟨c5, hq⟩
    · refine jw_icmp_eq_t (tgt := 84) dX12_isBarredAddress_70 (by decide) c5 ?_
      refine jw_forget [false, true, true, false] (L' := [none, none, none, none]) rfl ?_
      exact l_X12_isBarredAddress_b84  hq
    · refine jw_icmp_eq_f (tgt := 84) dX12_isBarredAddress_70 (by decide) c5 ?_
      refine jw_aload_n dX12_isBarredAddress_73 (o := (some x0)) rfl ?_
      obtain ⟨v6, ev6, hq⟩ := Option.bind_eq_some_iff.mp hq
      refine jw_getR (o := (some x0)) dX12_isBarredAddress_74 ev6 fl_X12_44 rfl ?_
      refine jw_iload_n dX12_isBarredAddress_77 rfl ?_
      obtain ⟨v7, ev7, hq⟩ := Option.bind_eq_some_iff.mp hq
      refine jw_iald (o := v6) dX12_isBarredAddress_78 ev7 ?_
      refine jw_bipush dX12_isBarredAddress_79 (v := (45 : Int32)) (by decide) ?_
      rcases jw_if hq with ⟨c8, hq⟩ | ⟨c8, hq⟩
      · refine jw_icmp_ne_f (tgt := 88) dX12_isBarredAddress_81 (by decide) c8 ?_
        refine jw_forget [false, true, true, false] (L' := [none, none, none, none]) rfl ?_
        exact l_X12_isBarredAddress_b84  hq
      · refine jw_icmp_ne_t (tgt := 88) dX12_isBarredAddress_81 (by decide) c8 ?_
        refine jw_forget [false, true, true, false] (L' := [none, none, none, none]) rfl ?_
        exact l_X12_isBarredAddress_b88  hq

set_option maxRecDepth 100000 in
set_option maxHeartbeats 4000000 in
theorem l_X12_isBarredAddress {hi : jw_H} {h : jw_H} {x0 : Nat} {x1 : Int32} {r : Int32} {h' : jw_H} (hq : f_X12_isBarredAddress  h x0 x1 = some (r, h')) : jw_E 2 uX12_isBarredAddress hi 0 [some (.ref x0), some (.int x1), none, none] [] h (.inl (some (.int r))) h' := by
  unfold f_X12_isBarredAddress at hq
  refine jw_aload_n dX12_isBarredAddress_0 (o := (some x0)) rfl ?_
  obtain ⟨v1, ev1, hq⟩ := Option.bind_eq_some_iff.mp hq
  refine jw_getR (o := (some x0)) dX12_isBarredAddress_1 ev1 fl_X12_44 rfl ?_
  refine jw_iload_n dX12_isBarredAddress_4 rfl ?_
  obtain ⟨v2, ev2, hq⟩ := Option.bind_eq_some_iff.mp hq
  refine jw_iald (o := v1) dX12_isBarredAddress_5 ev2 ?_
  refine jw_istore_n (L' := [some (.ref x0), some (.int x1), some (.int v2), none]) dX12_isBarredAddress_6 (Nat.le_of_ble_eq_true rfl) rfl ?_
  refine jw_iload_n dX12_isBarredAddress_7 rfl ?_
  obtain ⟨w4, h3, ew4, hq⟩ := jw_b2_spec hq
  refine jw_callS (As := [.int v2]) (S := []) (v := some (.int w4)) dX12_isBarredAddress_8 mt_X12_isNumeric st_X12_isNumeric lk_X12_566 (c_X12_isNumeric ew4) rfl (by decide) (Nat.le_of_ble_eq_true rfl) rfl ?_
  rcases jw_if hq with ⟨c5, hq⟩ | ⟨c5, hq⟩
  · refine jw_if_eq_t (tgt := 16) dX12_isBarredAddress_11 (by decide) c5 ?_
    refine jw_iload_n dX12_isBarredAddress_16 rfl ?_
    refine jw_iconst dX12_isBarredAddress_17 (v := (1 : Int32)) (by decide) ?_
    refine jw_iadd dX12_isBarredAddress_18 ?_
    refine jw_istore_n (L' := [some (.ref x0), some (.int x1), some (.int v2), some (.int (x1 + (1 : Int32)))]) dX12_isBarredAddress_19 (Nat.le_of_ble_eq_true rfl) rfl ?_
    refine jw_iload_n dX12_isBarredAddress_20 rfl ?_
    refine jw_bipush dX12_isBarredAddress_21 (v := (39 : Int32)) (by decide) ?_
    rcases jw_if hq with ⟨c6, hq⟩ | ⟨c6, hq⟩
    · refine jw_icmp_ne_f (tgt := 33) dX12_isBarredAddress_23 (by decide) c6 ?_
      refine jw_iload_n dX12_isBarredAddress_26 rfl ?_
      refine jw_iconst dX12_isBarredAddress_27 (v := (2 : Int32)) (by decide) ?_
      refine jw_iadd dX12_isBarredAddress_28 ?_
      refine jw_istore_n (L' := [some (.ref x0), some (.int x1), some (.int v2), some (.int (x1 + (2 : Int32)))]) dX12_isBarredAddress_29 (Nat.le_of_ble_eq_true rfl) rfl ?_
      refine jw_goto (tgt := 54) dX12_isBarredAddress_30 (by decide) ?_
      refine jw_forget [true, false, false, true] (L' := [some (.ref x0), none, none, some (.int (x1 + (2 : Int32)))]) rfl ?_
      exact l_X12_isBarredAddress_b54  hq
    · refine jw_icmp_ne_t (tgt := 33) dX12_isBarredAddress_23 (by decide) c6 ?_
      refine jw_iload_n dX12_isBarredAddress_33 rfl ?_
      refine jw_bipush dX12_isBarredAddress_34 (v := (46 : Int32)) (by decide) ?_
      rcases jw_if hq with ⟨c7, hq⟩ | ⟨c7, hq⟩
      · refine jw_icmp_eq_t (tgt := 54) dX12_isBarredAddress_36 (by decide) c7 ?_
        refine jw_forget [true, false, false, true] (L' := [some (.ref x0), none, none, some (.int (x1 + (1 : Int32)))]) rfl ?_
        exact l_X12_isBarredAddress_b54  hq
      · refine jw_icmp_eq_f (tgt := 54) dX12_isBarredAddress_36 (by decide) c7 ?_
        refine jw_aload_n dX12_isBarredAddress_39 (o := (some x0)) rfl ?_
        refine jw_iload_n dX12_isBarredAddress_40 rfl ?_
        refine jw_iconst dX12_isBarredAddress_41 (v := (1 : Int32)) (by decide) ?_
        refine jw_iadd dX12_isBarredAddress_42 ?_
        refine jw_iload_n dX12_isBarredAddress_43 rfl ?_
        obtain ⟨a8, ea8, hq⟩ := Option.bind_eq_some_iff.mp hq
        obtain ⟨eoa8, eta8⟩ := jw_rc_spec ea8
        obtain ⟨w10, h9, ew10, hq⟩ := jw_b2_spec hq
        refine jw_callV (As := [.int (x1 + (1 : Int32)), .int v2]) (S := []) (a := a8) (v := none) dX12_isBarredAddress_44 mt_X12_compile in_X12_compile se_X12_compile lk_X12_310 (c_X12_compile ew10) eta8 (by decide) rfl rfl (by decide) (Nat.le_of_ble_eq_true rfl) (by cases eoa8; rfl) ?_
        refine jw_aload_n dX12_isBarredAddress_47 (o := (some x0)) rfl ?_
        obtain ⟨v11, ev11, hq⟩ := Option.bind_eq_some_iff.mp hq
        refine jw_getI (o := (some x0)) dX12_isBarredAddress_48 ev11 fl_X12_268 rfl ?_
        refine jw_iconst dX12_isBarredAddress_51 (v := (1 : Int32)) (by decide) ?_
        refine jw_iadd dX12_isBarredAddress_52 ?_
        refine jw_istore_n (L' := [some (.ref x0), some (.int x1), some (.int v2), some (.int (v11 + (1 : Int32)))]) dX12_isBarredAddress_53 (Nat.le_of_ble_eq_true rfl) rfl ?_
        refine jw_forget [true, false, false, true] (L' := [some (.ref x0), none, none, some (.int (v11 + (1 : Int32)))]) rfl ?_
        exact l_X12_isBarredAddress_b54  hq
  · refine jw_if_eq_f (tgt := 16) dX12_isBarredAddress_11 (by decide) c5 ?_
    refine jw_iconst dX12_isBarredAddress_14 (v := (0 : Int32)) (by decide) ?_
    cases hq
    exact jw_iret (ty := .boolean) dX12_isBarredAddress_15 rfl rfl

theorem c_X12_isBarredAddress {h : jw_H} {x0 : Nat} {x1 : Int32} {r : Int32} {h' : jw_H} (hq : f_X12_isBarredAddress h x0 x1 = some (r, h')) : jw_Con (Cond.code yX12_isBarredAddress cX12_isBarredAddress 4 (some .boolean)) yX12_isBarredAddress 2 [.ref x0, .int x1] h (.inl (some (.int r))) h' :=
  jw_con false (plainFor_of_name (by decide +kernel)) (fun z => nomatch z) (by simp [jw_ent, jw_sl0_nil, jw_sl0_int, jw_sl0_long, jw_sl0_ref, jw_sl0_rf, jw_sl0_scr, List.replicate]) (by simp [jw_sl0_nil, jw_sl0_int, jw_sl0_long, jw_sl0_ref, jw_sl0_rf, jw_sl0_scr]) (l_X12_isBarredAddress hq)


/-! X12_isBarred -/
noncomputable def g_X12_isBarred_b93 (h : jw_H) (t0 : Int32) : Option (Int32 × jw_H) :=
 (jw_rb t0).bind fun v1 =>
 some (t0, h)

noncomputable def g_X12_isBarred_b88 (h : jw_H)  : Option (Int32 × jw_H) :=
 g_X12_isBarred_b93  h (1 : Int32)

noncomputable def g_X12_isBarred_b92 (h : jw_H)  : Option (Int32 × jw_H) :=
 g_X12_isBarred_b93  h (0 : Int32)

noncomputable def g_X12_isBarred_b69 (h : jw_H) (x0 : Nat) : Option (Int32 × jw_H) :=
 (jw_gI h 12 (some x0) 27).bind fun v1 =>
 if v1 = (3 : Int32) then ((jw_gI h 12 (some x0) 29).bind fun v3 =>
 (jw_rc h 12 (some x0)).bind fun a4 =>
 jw_b2 (f_X12_isBarredAddress h a4 v3) fun w6 h5 =>
 if w6 = 0 then (g_X12_isBarred_b92  h5 )
 else (g_X12_isBarred_b88  h5 ))
 else (g_X12_isBarred_b92  h )

noncomputable def g_X12_isBarred_b45 (h : jw_H) (x0 : Nat) (t0 : Int32) : Option (Int32 × jw_H) :=
 if t0 = 0 then ((jw_gI h 12 (some x0) 27).bind fun v2 =>
 if v2 < (2 : Int32) then (g_X12_isBarred_b69  h x0)
 else ((jw_gI h 12 (some x0) 28).bind fun v4 =>
 (jw_rc h 12 (some x0)).bind fun a5 =>
 jw_b2 (f_X12_isBarredAddress h a5 v4) fun w7 h6 =>
 if w7 = 0 then (g_X12_isBarred_b69  h6 x0)
 else (g_X12_isBarred_b88  h6 )))
 else (g_X12_isBarred_b88  h )

noncomputable def g_X12_isBarred_b40 (h : jw_H) (x0 : Nat) : Option (Int32 × jw_H) :=
 g_X12_isBarred_b45  h x0 (1 : Int32)

noncomputable def f_X12_isBarred (h : jw_H) (x0 : Nat) : Option (Int32 × jw_H) :=
 (jw_gR h 12 (some x0) 21).bind fun v1 =>
 (jw_gI h 12 (some x0) 30).bind fun v2 =>
 (jw_ai h 20 v1 v2).bind fun v3 =>
 if v3 = (108 : Int32) then (g_X12_isBarred_b40  h x0)
 else (if v3 = (111 : Int32) then (g_X12_isBarred_b40  h x0)
 else (if v3 = (79 : Int32) then (g_X12_isBarred_b40  h x0)
 else (if v3 = (109 : Int32) then (g_X12_isBarred_b40  h x0)
 else (if v3 = (116 : Int32) then (g_X12_isBarred_b40  h x0)
 else (g_X12_isBarred_b45  h x0 (0 : Int32))))))

set_option maxRecDepth 100000 in
set_option maxHeartbeats 4000000 in
theorem l_X12_isBarred_b93 {hi : jw_H} {h : jw_H} {t0 : Int32} {r : Int32} {h' : jw_H} (hq : g_X12_isBarred_b93  h t0 = some (r, h')) : jw_E 3 uX12_isBarred hi 93 [none, none, none] [.int t0] h (.inl (some (.int r))) h' := by
  unfold g_X12_isBarred_b93 at hq
  obtain ⟨v1, ev1, hq⟩ := Option.bind_eq_some_iff.mp hq
  cases hq
  exact jw_iret (ty := .boolean) dX12_isBarred_93 rfl (jw_rb_spec ev1)

set_option maxRecDepth 100000 in
set_option maxHeartbeats 4000000 in
theorem l_X12_isBarred_b88 {hi : jw_H} {h : jw_H}  {r : Int32} {h' : jw_H} (hq : g_X12_isBarred_b88  h  = some (r, h')) : jw_E 3 uX12_isBarred hi 88 [none, none, none] [] h (.inl (some (.int r))) h' := by
  unfold g_X12_isBarred_b88 at hq
  refine jw_iconst dX12_isBarred_88 (v := (1 : Int32)) (by decide) ?_
  refine jw_goto (tgt := 93) dX12_isBarred_89 (by decide) ?_
  exact l_X12_isBarred_b93  hq

set_option maxRecDepth 100000 in
set_option maxHeartbeats 4000000 in
theorem l_X12_isBarred_b92 {hi : jw_H} {h : jw_H}  {r : Int32} {h' : jw_H} (hq : g_X12_isBarred_b92  h  = some (r, h')) : jw_E 3 uX12_isBarred hi 92 [none, none, none] [] h (.inl (some (.int r))) h' := by
  unfold g_X12_isBarred_b92 at hq
  refine jw_iconst dX12_isBarred_92 (v := (0 : Int32)) (by decide) ?_
  exact l_X12_isBarred_b93  hq

set_option maxRecDepth 100000 in
set_option maxHeartbeats 4000000 in
theorem l_X12_isBarred_b69 {hi : jw_H} {h : jw_H} {x0 : Nat} {r : Int32} {h' : jw_H} (hq : g_X12_isBarred_b69  h x0 = some (r, h')) : jw_E 3 uX12_isBarred hi 69 [some (.ref x0), none, none] [] h (.inl (some (.int r))) h' := by
  unfold g_X12_isBarred_b69 at hq
  refine jw_aload_n dX12_isBarred_69 (o := (some x0)) rfl ?_
  obtain ⟨v1, ev1, hq⟩ := Option.bind_eq_some_iff.mp hq
  refine jw_getI (o := (some x0)) dX12_isBarred_70 ev1 fl_X12_203 rfl ?_
  refine jw_iconst dX12_isBarred_73 (v := (3 : Int32)) (by decide) ?_
  rcases jw_if hq with ⟨c2, hq⟩ | ⟨c2, hq⟩
  · refine jw_icmp_ne_f (tgt := 92) dX12_isBarred_74 (by decide) c2 ?_
    refine jw_aload_n dX12_isBarred_77 (o := (some x0)) rfl ?_
    refine jw_aload_n dX12_isBarred_78 (o := (some x0)) rfl ?_
    obtain ⟨v3, ev3, hq⟩ := Option.bind_eq_some_iff.mp hq
    refine jw_getI (o := (some x0)) dX12_isBarred_79 ev3 fl_X12_215 rfl ?_
    obtain ⟨a4, ea4, hq⟩ := Option.bind_eq_some_iff.mp hq
    obtain ⟨eoa4, eta4⟩ := jw_rc_spec ea4
    obtain ⟨w6, h5, ew6, hq⟩ := jw_b2_spec hq
    refine jw_callV (As := [.int v3]) (S := []) (a := a4) (v := some (.int w6)) dX12_isBarred_82 mt_X12_isBarredAddress in_X12_isBarredAddress se_X12_isBarredAddress lk_X12_572 (c_X12_isBarredAddress ew6) eta4 (by decide) rfl rfl (by decide) (Nat.le_of_ble_eq_true rfl) (by cases eoa4; rfl) ?_
    rcases jw_if hq with ⟨c7, hq⟩ | ⟨c7, hq⟩
    · refine jw_if_eq_t (tgt := 92) dX12_isBarred_85 (by decide) c7 ?_
      refine jw_forget [false, true, true] (L' := [none, none, none]) rfl ?_
      exact l_X12_isBarred_b92  hq
    · refine jw_if_eq_f (tgt := 92) dX12_isBarred_85 (by decide) c7 ?_
      refine jw_forget [false, true, true] (L' := [none, none, none]) rfl ?_
      exact l_X12_isBarred_b88  hq
  · refine jw_icmp_ne_t (tgt := 92) dX12_isBarred_74 (by decide) c2 ?_
    refine jw_forget [false, true, true] (L' := [none, none, none]) rfl ?_
    exact l_X12_isBarred_b92  hq

set_option maxRecDepth 100000 in
set_option maxHeartbeats 4000000 in
theorem l_X12_isBarred_b45 {hi : jw_H} {h : jw_H} {x0 : Nat} {t0 : Int32} {r : Int32} {h' : jw_H} (hq : g_X12_isBarred_b45  h x0 t0 = some (r, h')) : jw_E 3 uX12_isBarred hi 45 [some (.ref x0), none, none] [.int t0] h (.inl (some (.int r))) h' := by
  unfold g_X12_isBarred_b45 at hq
  refine jw_istore_n (L' := [some (.ref x0), none, some (.int t0)]) dX12_isBarred_45 (Nat.le_of_ble_eq_true rfl) rfl ?_
  refine jw_iload_n dX12_isBarred_46 rfl ?_
  rcases jw_if hq with ⟨c1, hq⟩ | ⟨c1, hq⟩
  · refine jw_if_ne_f (tgt := 88) dX12_isBarred_47 (by decide) c1 ?_
    refine jw_aload_n dX12_isBarred_50 (o := (some x0)) rfl ?_
    obtain ⟨v2, ev2, hq⟩ := Option.bind_eq_some_iff.mp hq
    refine jw_getI (o := (some x0)) dX12_isBarred_51 ev2 fl_X12_203 rfl ?_
    refine jw_iconst dX12_isBarred_54 (v := (2 : Int32)) (by decide) ?_
    rcases jw_if hq with ⟨c3, hq⟩ | ⟨c3, hq⟩
    · refine jw_icmp_lt_t (tgt := 69) dX12_isBarred_55 (by decide) c3 ?_
      refine jw_forget [true, true, false] (L' := [some (.ref x0), none, none]) rfl ?_
      exact l_X12_isBarred_b69  hq
    · refine jw_icmp_lt_f (tgt := 69) dX12_isBarred_55 (by decide) c3 ?_
      refine jw_aload_n dX12_isBarred_58 (o := (some x0)) rfl ?_
      refine jw_aload_n dX12_isBarred_59 (o := (some x0)) rfl ?_
      obtain ⟨v4, ev4, hq⟩ := Option.bind_eq_some_iff.mp hq
      refine jw_getI (o := (some x0)) dX12_isBarred_60 ev4 fl_X12_209 rfl ?_
      obtain ⟨a5, ea5, hq⟩ := Option.bind_eq_some_iff.mp hq
      obtain ⟨eoa5, eta5⟩ := jw_rc_spec ea5
      obtain ⟨w7, h6, ew7, hq⟩ := jw_b2_spec hq
      refine jw_callV (As := [.int v4]) (S := []) (a := a5) (v := some (.int w7)) dX12_isBarred_63 mt_X12_isBarredAddress in_X12_isBarredAddress se_X12_isBarredAddress lk_X12_572 (c_X12_isBarredAddress ew7) eta5 (by decide) rfl rfl (by decide) (Nat.le_of_ble_eq_true rfl) (by cases eoa5; rfl) ?_
      rcases jw_if hq with ⟨c8, hq⟩ | ⟨c8, hq⟩
      · refine jw_if_ne_f (tgt := 88) dX12_isBarred_66 (by decide) c8 ?_
        refine jw_forget [true, true, false] (L' := [some (.ref x0), none, none]) rfl ?_
        exact l_X12_isBarred_b69  hq
      · refine jw_if_ne_t (tgt := 88) dX12_isBarred_66 (by decide) c8 ?_
        refine jw_forget [false, true, false] (L' := [none, none, none]) rfl ?_
        exact l_X12_isBarred_b88  hq
  · refine jw_if_ne_t (tgt := 88) dX12_isBarred_47 (by decide) c1 ?_
    refine jw_forget [false, true, false] (L' := [none, none, none]) rfl ?_
    exact l_X12_isBarred_b88  hq

set_option maxRecDepth 100000 in
set_option maxHeartbeats 4000000 in
theorem l_X12_isBarred_b40 {hi : jw_H} {h : jw_H} {x0 : Nat} {r : Int32} {h' : jw_H} (hq : g_X12_isBarred_b40  h x0 = some (r, h')) : jw_E 3 uX12_isBarred hi 40 [some (.ref x0), none, none] [] h (.inl (some (.int r))) h' := by
  unfold g_X12_isBarred_b40 at hq
  refine jw_iconst dX12_isBarred_40 (v := (1 : Int32)) (by decide) ?_
  refine jw_goto (tgt := 45) dX12_isBarred_41 (by decide) ?_
  exact l_X12_isBarred_b45  hq

set_option maxRecDepth 100000 in
set_option maxHeartbeats 4000000 in
theorem l_X12_isBarred {hi : jw_H} {h : jw_H} {x0 : Nat} {r : Int32} {h' : jw_H} (hq : f_X12_isBarred  h x0 = some (r, h')) : jw_E 3 uX12_isBarred hi 0 [some (.ref x0), none, none] [] h (.inl (some (.int r))) h' := by
  unfold f_X12_isBarred at hq
  refine jw_aload_n dX12_isBarred_0 (o := (some x0)) rfl ?_
  obtain ⟨v1, ev1, hq⟩ := Option.bind_eq_some_iff.mp hq
  refine jw_getR (o := (some x0)) dX12_isBarred_1 ev1 fl_X12_44 rfl ?_
  refine jw_aload_n dX12_isBarred_4 (o := (some x0)) rfl ?_
  obtain ⟨v2, ev2, hq⟩ := Option.bind_eq_some_iff.mp hq
  refine jw_getI (o := (some x0)) dX12_isBarred_5 ev2 fl_X12_218 rfl ?_
  obtain ⟨v3, ev3, hq⟩ := Option.bind_eq_some_iff.mp hq
  refine jw_iald (o := v1) dX12_isBarred_8 ev3 ?_
  refine jw_istore_n (L' := [some (.ref x0), some (.int v3), none]) dX12_isBarred_9 (Nat.le_of_ble_eq_true rfl) rfl ?_
  refine jw_iload_n dX12_isBarred_10 rfl ?_
  refine jw_bipush dX12_isBarred_11 (v := (108 : Int32)) (by decide) ?_
  rcases jw_if hq with ⟨c4, hq⟩ | ⟨c4, hq⟩
  · refine jw_icmp_eq_t (tgt := 40) dX12_isBarred_13 (by decide) c4 ?_
    refine jw_forget [true, false, true] (L' := [some (.ref x0), none, none]) rfl ?_
    exact l_X12_isBarred_b40  hq
  · refine jw_icmp_eq_f (tgt := 40) dX12_isBarred_13 (by decide) c4 ?_
    refine jw_iload_n dX12_isBarred_16 rfl ?_
    refine jw_bipush dX12_isBarred_17 (v := (111 : Int32)) (by decide) ?_
    rcases jw_if hq with ⟨c5, hq⟩ | ⟨c5, hq⟩
    · refine jw_icmp_eq_t (tgt := 40) dX12_isBarred_19 (by decide) c5 ?_
      refine jw_forget [true, false, true] (L' := [some (.ref x0), none, none]) rfl ?_
      exact l_X12_isBarred_b40  hq
    · refine jw_icmp_eq_f (tgt := 40) dX12_isBarred_19 (by decide) c5 ?_
      refine jw_iload_n dX12_isBarred_22 rfl ?_
      refine jw_bipush dX12_isBarred_23 (v := (79 : Int32)) (by decide) ?_
      rcases jw_if hq with ⟨c6, hq⟩ | ⟨c6, hq⟩
      · refine jw_icmp_eq_t (tgt := 40) dX12_isBarred_25 (by decide) c6 ?_
        refine jw_forget [true, false, true] (L' := [some (.ref x0), none, none]) rfl ?_
        exact l_X12_isBarred_b40  hq
      · refine jw_icmp_eq_f (tgt := 40) dX12_isBarred_25 (by decide) c6 ?_
        refine jw_iload_n dX12_isBarred_28 rfl ?_
        refine jw_bipush dX12_isBarred_29 (v := (109 : Int32)) (by decide) ?_
        rcases jw_if hq with ⟨c7, hq⟩ | ⟨c7, hq⟩
        · refine jw_icmp_eq_t (tgt := 40) dX12_isBarred_31 (by decide) c7 ?_
          refine jw_forget [true, false, true] (L' := [some (.ref x0), none, none]) rfl ?_
          exact l_X12_isBarred_b40  hq
        · refine jw_icmp_eq_f (tgt := 40) dX12_isBarred_31 (by decide) c7 ?_
          refine jw_iload_n dX12_isBarred_34 rfl ?_
          refine jw_bipush dX12_isBarred_35 (v := (116 : Int32)) (by decide) ?_
          rcases jw_if hq with ⟨c8, hq⟩ | ⟨c8, hq⟩
          · refine jw_icmp_ne_f (tgt := 44) dX12_isBarred_37 (by decide) c8 ?_
            refine jw_forget [true, false, true] (L' := [some (.ref x0), none, none]) rfl ?_
            exact l_X12_isBarred_b40  hq
          · refine jw_icmp_ne_t (tgt := 44) dX12_isBarred_37 (by decide) c8 ?_
            refine jw_iconst dX12_isBarred_44 (v := (0 : Int32)) (by decide) ?_
            refine jw_forget [true, false, true] (L' := [some (.ref x0), none, none]) rfl ?_
            exact l_X12_isBarred_b45  hq

theorem c_X12_isBarred {h : jw_H} {x0 : Nat} {r : Int32} {h' : jw_H} (hq : f_X12_isBarred h x0 = some (r, h')) : jw_Con (Cond.code yX12_isBarred cX12_isBarred 3 (some .boolean)) yX12_isBarred 3 [.ref x0] h (.inl (some (.int r))) h' :=
  jw_con false (plainFor_of_name (by decide +kernel)) (fun z => nomatch z) (by simp [jw_ent, jw_sl0_nil, jw_sl0_int, jw_sl0_long, jw_sl0_ref, jw_sl0_rf, jw_sl0_scr, List.replicate]) (by simp [jw_sl0_nil, jw_sl0_int, jw_sl0_long, jw_sl0_ref, jw_sl0_rf, jw_sl0_scr]) (l_X12_isBarred hq)


/-! X12_runHolds -/
noncomputable def g_X12_runHolds_b108 (h : jw_H) (t0 : Option Nat) (t1 : Int32) (t2 : Int32) : Option (Int32 × jw_H) :=
 (jw_si h 22 t0 t1 (vp_nar .boolean t2)).bind fun h1 =>
 some ((1 : Int32), h1)

noncomputable def g_X12_runHolds_b148 (h : jw_H) (x4 : Int32) (t0 : Option Nat) (t1 : Int32) (t2 : Int32) : Option (Int32 × jw_H) :=
 (jw_si h 22 t0 t1 (vp_nar .boolean t2)).bind fun h1 =>
 (jw_rb x4).bind fun v2 =>
 some (x4, h1)

noncomputable def g_X12_runHolds_b143 (h : jw_H) (x4 : Int32) (t0 : Option Nat) (t1 : Int32) : Option (Int32 × jw_H) :=
 g_X12_runHolds_b148  h x4 t0 t1 (1 : Int32)

noncomputable def g_X12_runHolds_b147 (h : jw_H) (x4 : Int32) (t0 : Option Nat) (t1 : Int32) : Option (Int32 × jw_H) :=
 g_X12_runHolds_b148  h x4 t0 t1 (0 : Int32)

noncomputable def g_X12_runHolds_b58 (h : jw_H) (x0 : Nat) (x1 : Int32) (x2 : Int32) (x3 : Int32) : Option (Int32 × jw_H) :=
 (jw_gR h 12 (some x0) 74).bind fun v1 =>
 (jw_ai h 22 v1 x1).bind fun v2 =>
 if v2 = 0 then ((jw_gI h 12 (some x0) 28).bind fun v4 =>
 (jw_rc h 12 (some x0)).bind fun a5 =>
 jw_b2 (f_X12_holds h a5 v4) fun w7 h6 =>
 (jw_gR h6 12 (some x0) 74).bind fun v8 =>
 if w7 = 0 then (g_X12_runHolds_b147  h6 w7 v8 x1)
 else (if x2 = 0 then (g_X12_runHolds_b143  h6 w7 v8 x1)
 else ((jw_gI h6 12 (some x0) 68).bind fun v11 =>
 if x3 ≤ v11 then (g_X12_runHolds_b147  h6 w7 v8 x1)
 else (g_X12_runHolds_b143  h6 w7 v8 x1))))
 else ((jw_gR h 12 (some x0) 74).bind fun v13 =>
 if x2 = 0 then ((jw_gI h 12 (some x0) 29).bind fun v15 =>
 (jw_rc h 12 (some x0)).bind fun a16 =>
 jw_b2 (f_X12_holds h a16 v15) fun w18 h17 =>
 if w18 = 0 then (g_X12_runHolds_b108  h17 v13 x1 (1 : Int32))
 else (g_X12_runHolds_b108  h17 v13 x1 (0 : Int32)))
 else ((jw_gI h 12 (some x0) 68).bind fun v20 =>
 if x3 ≤ v20 then (g_X12_runHolds_b108  h v13 x1 (0 : Int32))
 else (g_X12_runHolds_b108  h v13 x1 (1 : Int32))))

noncomputable def g_X12_runHolds_b29 (h : jw_H) (x0 : Nat) (x1 : Int32) (x2 : Int32) (t0 : Int32) : Option (Int32 × jw_H) :=
 (jw_gR h 12 (some x0) 74).bind fun v1 =>
 (jw_ai h 22 v1 x1).bind fun v2 =>
 if v2 = 0 then (g_X12_runHolds_b58  h x0 x1 x2 t0)
 else (if x2 = 0 then (g_X12_runHolds_b58  h x0 x1 x2 t0)
 else ((jw_gI h 12 (some x0) 68).bind fun v5 =>
 if v5 ≤ t0 then (g_X12_runHolds_b58  h x0 x1 x2 t0)
 else ((jw_gR h 12 (some x0) 74).bind fun v7 =>
 (jw_si h 22 v7 x1 (vp_nar .boolean (0 : Int32))).bind fun h8 =>
 g_X12_runHolds_b58  h8 x0 x1 x2 t0)))

noncomputable def f_X12_runHolds (h : jw_H) (x0 : Nat) (x1 : Int32) : Option (Int32 × jw_H) :=
 (jw_gR h 12 (some x0) 21).bind fun v1 =>
 (jw_gI h 12 (some x0) 29).bind fun v2 =>
 (jw_ai h 20 v1 v2).bind fun v3 =>
 jw_b2 (f_X12_isNumeric h v3) fun w5 h4 =>
 if w5 = 0 then (g_X12_runHolds_b29  h4 x0 x1 w5 (0 : Int32))
 else ((jw_gI h4 12 (some x0) 29).bind fun v7 =>
 (jw_rc h4 12 (some x0)).bind fun a8 =>
 jw_b2 (f_X12_numericAt h4 a8 v7) fun w10 h9 =>
 g_X12_runHolds_b29  h9 x0 x1 w5 w10)

set_option maxRecDepth 100000 in
set_option maxHeartbeats 4000000 in
theorem l_X12_runHolds_b108 {hi : jw_H} {h : jw_H} {t0 : Option Nat} {t1 : Int32} {t2 : Int32} {r : Int32} {h' : jw_H} (hq : g_X12_runHolds_b108  h t0 t1 t2 = some (r, h')) : jw_E 6 uX12_runHolds hi 108 [none, none, none, none, none] [.int t2, .int t1, va_rf t0] h (.inl (some (.int r))) h' := by
  unfold g_X12_runHolds_b108 at hq
  obtain ⟨h1, eh1, hq⟩ := Option.bind_eq_some_iff.mp hq
  refine jw_zast (o := t0) rfl dX12_runHolds_108 eh1 ?_
  refine jw_iconst dX12_runHolds_109 (v := (1 : Int32)) (by decide) ?_
  cases hq
  exact jw_iret (ty := .boolean) dX12_runHolds_110 rfl rfl

set_option maxRecDepth 100000 in
set_option maxHeartbeats 4000000 in
theorem l_X12_runHolds_b148 {hi : jw_H} {h : jw_H} {x4 : Int32} {t0 : Option Nat} {t1 : Int32} {t2 : Int32} {r : Int32} {h' : jw_H} (hq : g_X12_runHolds_b148  h x4 t0 t1 t2 = some (r, h')) : jw_E 6 uX12_runHolds hi 148 [none, none, none, none, some (.int x4)] [.int t2, .int t1, va_rf t0] h (.inl (some (.int r))) h' := by
  unfold g_X12_runHolds_b148 at hq
  obtain ⟨h1, eh1, hq⟩ := Option.bind_eq_some_iff.mp hq
  refine jw_zast (o := t0) rfl dX12_runHolds_148 eh1 ?_
  refine jw_iload dX12_runHolds_149 rfl ?_
  obtain ⟨v2, ev2, hq⟩ := Option.bind_eq_some_iff.mp hq
  cases hq
  exact jw_iret (ty := .boolean) dX12_runHolds_151 rfl (jw_rb_spec ev2)

set_option maxRecDepth 100000 in
set_option maxHeartbeats 4000000 in
theorem l_X12_runHolds_b143 {hi : jw_H} {h : jw_H} {x4 : Int32} {t0 : Option Nat} {t1 : Int32} {r : Int32} {h' : jw_H} (hq : g_X12_runHolds_b143  h x4 t0 t1 = some (r, h')) : jw_E 6 uX12_runHolds hi 143 [none, none, none, none, some (.int x4)] [.int t1, va_rf t0] h (.inl (some (.int r))) h' := by
  unfold g_X12_runHolds_b143 at hq
  refine jw_iconst dX12_runHolds_143 (v := (1 : Int32)) (by decide) ?_
  refine jw_goto (tgt := 148) dX12_runHolds_144 (by decide) ?_
  exact l_X12_runHolds_b148  hq

set_option maxRecDepth 100000 in
set_option maxHeartbeats 4000000 in
theorem l_X12_runHolds_b147 {hi : jw_H} {h : jw_H} {x4 : Int32} {t0 : Option Nat} {t1 : Int32} {r : Int32} {h' : jw_H} (hq : g_X12_runHolds_b147  h x4 t0 t1 = some (r, h')) : jw_E 6 uX12_runHolds hi 147 [none, none, none, none, some (.int x4)] [.int t1, va_rf t0] h (.inl (some (.int r))) h' := by
  unfold g_X12_runHolds_b147 at hq
  refine jw_iconst dX12_runHolds_147 (v := (0 : Int32)) (by decide) ?_
  exact l_X12_runHolds_b148  hq

set_option maxRecDepth 100000 in
set_option maxHeartbeats 4000000 in
theorem l_X12_runHolds_b58 {hi : jw_H} {h : jw_H} {x0 : Nat} {x1 : Int32} {x2 : Int32} {x3 : Int32} {r : Int32} {h' : jw_H} (hq : g_X12_runHolds_b58  h x0 x1 x2 x3 = some (r, h')) : jw_E 6 uX12_runHolds hi 58 [some (.ref x0), some (.int x1), some (.int x2), some (.int x3), none] [] h (.inl (some (.int r))) h' := by
  unfold g_X12_runHolds_b58 at hq
  refine jw_aload_n dX12_runHolds_58 (o := (some x0)) rfl ?_
  obtain ⟨v1, ev1, hq⟩ := Option.bind_eq_some_iff.mp hq
  refine jw_getR (o := (some x0)) dX12_runHolds_59 ev1 fl_X12_90 rfl ?_
  refine jw_iload_n dX12_runHolds_62 rfl ?_
  obtain ⟨v2, ev2, hq⟩ := Option.bind_eq_some_iff.mp hq
  refine jw_zald (o := v1) dX12_runHolds_63 ev2 ?_
  rcases jw_if hq with ⟨c3, hq⟩ | ⟨c3, hq⟩
  · refine jw_if_eq_t (tgt := 111) dX12_runHolds_64 (by decide) c3 ?_
    refine jw_aload_n dX12_runHolds_111 (o := (some x0)) rfl ?_
    refine jw_aload_n dX12_runHolds_112 (o := (some x0)) rfl ?_
    obtain ⟨v4, ev4, hq⟩ := Option.bind_eq_some_iff.mp hq
    refine jw_getI (o := (some x0)) dX12_runHolds_113 ev4 fl_X12_209 rfl ?_
    obtain ⟨a5, ea5, hq⟩ := Option.bind_eq_some_iff.mp hq
    obtain ⟨eoa5, eta5⟩ := jw_rc_spec ea5
    obtain ⟨w7, h6, ew7, hq⟩ := jw_b2_spec hq
    refine jw_callV (As := [.int v4]) (S := []) (a := a5) (v := some (.int w7)) dX12_runHolds_116 mt_X12_holds in_X12_holds se_X12_holds lk_X12_575 (c_X12_holds ew7) eta5 (by decide) rfl rfl (by decide) (Nat.le_of_ble_eq_true rfl) (by cases eoa5; rfl) ?_
    refine jw_istore (L' := [some (.ref x0), some (.int x1), some (.int x2), some (.int x3), some (.int w7)]) dX12_runHolds_119 (Nat.le_of_ble_eq_true rfl) rfl ?_
    refine jw_aload_n dX12_runHolds_121 (o := (some x0)) rfl ?_
    obtain ⟨v8, ev8, hq⟩ := Option.bind_eq_some_iff.mp hq
    refine jw_getR (o := (some x0)) dX12_runHolds_122 ev8 fl_X12_90 rfl ?_
    refine jw_iload_n dX12_runHolds_125 rfl ?_
    refine jw_iload dX12_runHolds_126 rfl ?_
    rcases jw_if hq with ⟨c9, hq⟩ | ⟨c9, hq⟩
    · refine jw_if_eq_t (tgt := 147) dX12_runHolds_128 (by decide) c9 ?_
      refine jw_forget [false, false, false, false, true] (L' := [none, none, none, none, some (.int w7)]) rfl ?_
      exact l_X12_runHolds_b147  hq
    · refine jw_if_eq_f (tgt := 147) dX12_runHolds_128 (by decide) c9 ?_
      refine jw_iload_n dX12_runHolds_131 rfl ?_
      rcases jw_if hq with ⟨c10, hq⟩ | ⟨c10, hq⟩
      · refine jw_if_eq_t (tgt := 143) dX12_runHolds_132 (by decide) c10 ?_
        refine jw_forget [false, false, false, false, true] (L' := [none, none, none, none, some (.int w7)]) rfl ?_
        exact l_X12_runHolds_b143  hq
      · refine jw_if_eq_f (tgt := 143) dX12_runHolds_132 (by decide) c10 ?_
        refine jw_iload_n dX12_runHolds_135 rfl ?_
        refine jw_aload_n dX12_runHolds_136 (o := (some x0)) rfl ?_
        obtain ⟨v11, ev11, hq⟩ := Option.bind_eq_some_iff.mp hq
        refine jw_getI (o := (some x0)) dX12_runHolds_137 ev11 fl_X12_551 rfl ?_
        rcases jw_if hq with ⟨c12, hq⟩ | ⟨c12, hq⟩
        · refine jw_icmp_le_t (tgt := 147) dX12_runHolds_140 (by decide) c12 ?_
          refine jw_forget [false, false, false, false, true] (L' := [none, none, none, none, some (.int w7)]) rfl ?_
          exact l_X12_runHolds_b147  hq
        · refine jw_icmp_le_f (tgt := 147) dX12_runHolds_140 (by decide) c12 ?_
          refine jw_forget [false, false, false, false, true] (L' := [none, none, none, none, some (.int w7)]) rfl ?_
          exact l_X12_runHolds_b143  hq
  · refine jw_if_eq_f (tgt := 111) dX12_runHolds_64 (by decide) c3 ?_
    refine jw_aload_n dX12_runHolds_67 (o := (some x0)) rfl ?_
    obtain ⟨v13, ev13, hq⟩ := Option.bind_eq_some_iff.mp hq
    refine jw_getR (o := (some x0)) dX12_runHolds_68 ev13 fl_X12_90 rfl ?_
    refine jw_iload_n dX12_runHolds_71 rfl ?_
    refine jw_iload_n dX12_runHolds_72 rfl ?_
    rcases jw_if hq with ⟨c14, hq⟩ | ⟨c14, hq⟩
    · refine jw_if_eq_t (tgt := 92) dX12_runHolds_73 (by decide) c14 ?_
      refine jw_aload_n dX12_runHolds_92 (o := (some x0)) rfl ?_
      refine jw_aload_n dX12_runHolds_93 (o := (some x0)) rfl ?_
      obtain ⟨v15, ev15, hq⟩ := Option.bind_eq_some_iff.mp hq
      refine jw_getI (o := (some x0)) dX12_runHolds_94 ev15 fl_X12_215 rfl ?_
      obtain ⟨a16, ea16, hq⟩ := Option.bind_eq_some_iff.mp hq
      obtain ⟨eoa16, eta16⟩ := jw_rc_spec ea16
      obtain ⟨w18, h17, ew18, hq⟩ := jw_b2_spec hq
      refine jw_callV (As := [.int v15]) (S := [.int x1, va_rf v13]) (a := a16) (v := some (.int w18)) dX12_runHolds_97 mt_X12_holds in_X12_holds se_X12_holds lk_X12_575 (c_X12_holds ew18) eta16 (by decide) rfl rfl (by decide) (by simp only [List.map_cons, List.map_nil, List.sum_cons, List.sum_nil, jw_cat_rf, jw_cat_i, jw_cat_l, jw_cat_a, jw_cat_s] <;> decide) (by cases eoa16; rfl) ?_
      rcases jw_if hq with ⟨c19, hq⟩ | ⟨c19, hq⟩
      · refine jw_if_ne_f (tgt := 107) dX12_runHolds_100 (by decide) c19 ?_
        refine jw_iconst dX12_runHolds_103 (v := (1 : Int32)) (by decide) ?_
        refine jw_goto (tgt := 108) dX12_runHolds_104 (by decide) ?_
        refine jw_forget [false, false, false, false, true] (L' := [none, none, none, none, none]) rfl ?_
        exact l_X12_runHolds_b108  hq
      · refine jw_if_ne_t (tgt := 107) dX12_runHolds_100 (by decide) c19 ?_
        refine jw_iconst dX12_runHolds_107 (v := (0 : Int32)) (by decide) ?_
        refine jw_forget [false, false, false, false, true] (L' := [none, none, none, none, none]) rfl ?_
        exact l_X12_runHolds_b108  hq
    · refine jw_if_eq_f (tgt := 92) dX12_runHolds_73 (by decide) c14 ?_
      refine jw_aload_n dX12_runHolds_76 (o := (some x0)) rfl ?_
      obtain ⟨v20, ev20, hq⟩ := Option.bind_eq_some_iff.mp hq
      refine jw_getI (o := (some x0)) dX12_runHolds_77 ev20 fl_X12_551 rfl ?_
      refine jw_iload_n dX12_runHolds_80 rfl ?_
      rcases jw_if hq with ⟨c21, hq⟩ | ⟨c21, hq⟩
      · refine jw_icmp_ge_t (tgt := 88) dX12_runHolds_81 (by decide) c21 ?_
        refine jw_iconst dX12_runHolds_88 (v := (0 : Int32)) (by decide) ?_
        refine jw_goto (tgt := 108) dX12_runHolds_89 (by decide) ?_
        refine jw_forget [false, false, false, false, true] (L' := [none, none, none, none, none]) rfl ?_
        exact l_X12_runHolds_b108  hq
      · refine jw_icmp_ge_f (tgt := 88) dX12_runHolds_81 (by decide) c21 ?_
        refine jw_iconst dX12_runHolds_84 (v := (1 : Int32)) (by decide) ?_
        refine jw_goto (tgt := 108) dX12_runHolds_85 (by decide) ?_
        refine jw_forget [false, false, false, false, true] (L' := [none, none, none, none, none]) rfl ?_
        exact l_X12_runHolds_b108  hq

set_option maxRecDepth 100000 in
set_option maxHeartbeats 4000000 in
theorem l_X12_runHolds_b29 {hi : jw_H} {h : jw_H} {x0 : Nat} {x1 : Int32} {x2 : Int32} {t0 : Int32} {r : Int32} {h' : jw_H} (hq : g_X12_runHolds_b29  h x0 x1 x2 t0 = some (r, h')) : jw_E 6 uX12_runHolds hi 29 [some (.ref x0), some (.int x1), some (.int x2), none, none] [.int t0] h (.inl (some (.int r))) h' := by
  unfold g_X12_runHolds_b29 at hq
  refine jw_istore_n (L' := [some (.ref x0), some (.int x1), some (.int x2), some (.int t0), none]) dX12_runHolds_29 (Nat.le_of_ble_eq_true rfl) rfl ?_
  refine jw_aload_n dX12_runHolds_30 (o := (some x0)) rfl ?_
  obtain ⟨v1, ev1, hq⟩ := Option.bind_eq_some_iff.mp hq
  refine jw_getR (o := (some x0)) dX12_runHolds_31 ev1 fl_X12_90 rfl ?_
  refine jw_iload_n dX12_runHolds_34 rfl ?_
  obtain ⟨v2, ev2, hq⟩ := Option.bind_eq_some_iff.mp hq
  refine jw_zald (o := v1) dX12_runHolds_35 ev2 ?_
  rcases jw_if hq with ⟨c3, hq⟩ | ⟨c3, hq⟩
  · refine jw_if_eq_t (tgt := 58) dX12_runHolds_36 (by decide) c3 ?_
    exact l_X12_runHolds_b58  hq
  · refine jw_if_eq_f (tgt := 58) dX12_runHolds_36 (by decide) c3 ?_
    refine jw_iload_n dX12_runHolds_39 rfl ?_
    rcases jw_if hq with ⟨c4, hq⟩ | ⟨c4, hq⟩
    · refine jw_if_eq_t (tgt := 58) dX12_runHolds_40 (by decide) c4 ?_
      exact l_X12_runHolds_b58  hq
    · refine jw_if_eq_f (tgt := 58) dX12_runHolds_40 (by decide) c4 ?_
      refine jw_aload_n dX12_runHolds_43 (o := (some x0)) rfl ?_
      obtain ⟨v5, ev5, hq⟩ := Option.bind_eq_some_iff.mp hq
      refine jw_getI (o := (some x0)) dX12_runHolds_44 ev5 fl_X12_551 rfl ?_
      refine jw_iload_n dX12_runHolds_47 rfl ?_
      rcases jw_if hq with ⟨c6, hq⟩ | ⟨c6, hq⟩
      · refine jw_icmp_le_t (tgt := 58) dX12_runHolds_48 (by decide) c6 ?_
        exact l_X12_runHolds_b58  hq
      · refine jw_icmp_le_f (tgt := 58) dX12_runHolds_48 (by decide) c6 ?_
        refine jw_aload_n dX12_runHolds_51 (o := (some x0)) rfl ?_
        obtain ⟨v7, ev7, hq⟩ := Option.bind_eq_some_iff.mp hq
        refine jw_getR (o := (some x0)) dX12_runHolds_52 ev7 fl_X12_90 rfl ?_
        refine jw_iload_n dX12_runHolds_55 rfl ?_
        refine jw_iconst dX12_runHolds_56 (v := (0 : Int32)) (by decide) ?_
        obtain ⟨h8, eh8, hq⟩ := Option.bind_eq_some_iff.mp hq
        refine jw_zast (o := v7) rfl dX12_runHolds_57 eh8 ?_
        exact l_X12_runHolds_b58  hq

set_option maxRecDepth 100000 in
set_option maxHeartbeats 4000000 in
theorem l_X12_runHolds {hi : jw_H} {h : jw_H} {x0 : Nat} {x1 : Int32} {r : Int32} {h' : jw_H} (hq : f_X12_runHolds  h x0 x1 = some (r, h')) : jw_E 6 uX12_runHolds hi 0 [some (.ref x0), some (.int x1), none, none, none] [] h (.inl (some (.int r))) h' := by
  unfold f_X12_runHolds at hq
  refine jw_aload_n dX12_runHolds_0 (o := (some x0)) rfl ?_
  obtain ⟨v1, ev1, hq⟩ := Option.bind_eq_some_iff.mp hq
  refine jw_getR (o := (some x0)) dX12_runHolds_1 ev1 fl_X12_44 rfl ?_
  refine jw_aload_n dX12_runHolds_4 (o := (some x0)) rfl ?_
  obtain ⟨v2, ev2, hq⟩ := Option.bind_eq_some_iff.mp hq
  refine jw_getI (o := (some x0)) dX12_runHolds_5 ev2 fl_X12_215 rfl ?_
  obtain ⟨v3, ev3, hq⟩ := Option.bind_eq_some_iff.mp hq
  refine jw_iald (o := v1) dX12_runHolds_8 ev3 ?_
  obtain ⟨w5, h4, ew5, hq⟩ := jw_b2_spec hq
  refine jw_callS (As := [.int v3]) (S := []) (v := some (.int w5)) dX12_runHolds_9 mt_X12_isNumeric st_X12_isNumeric lk_X12_566 (c_X12_isNumeric ew5) rfl (by decide) (Nat.le_of_ble_eq_true rfl) rfl ?_
  refine jw_istore_n (L' := [some (.ref x0), some (.int x1), some (.int w5), none, none]) dX12_runHolds_12 (Nat.le_of_ble_eq_true rfl) rfl ?_
  refine jw_iload_n dX12_runHolds_13 rfl ?_
  rcases jw_if hq with ⟨c6, hq⟩ | ⟨c6, hq⟩
  · refine jw_if_eq_t (tgt := 28) dX12_runHolds_14 (by decide) c6 ?_
    refine jw_iconst dX12_runHolds_28 (v := (0 : Int32)) (by decide) ?_
    exact l_X12_runHolds_b29  hq
  · refine jw_if_eq_f (tgt := 28) dX12_runHolds_14 (by decide) c6 ?_
    refine jw_aload_n dX12_runHolds_17 (o := (some x0)) rfl ?_
    refine jw_aload_n dX12_runHolds_18 (o := (some x0)) rfl ?_
    obtain ⟨v7, ev7, hq⟩ := Option.bind_eq_some_iff.mp hq
    refine jw_getI (o := (some x0)) dX12_runHolds_19 ev7 fl_X12_215 rfl ?_
    obtain ⟨a8, ea8, hq⟩ := Option.bind_eq_some_iff.mp hq
    obtain ⟨eoa8, eta8⟩ := jw_rc_spec ea8
    obtain ⟨w10, h9, ew10, hq⟩ := jw_b2_spec hq
    refine jw_callV (As := [.int v7]) (S := []) (a := a8) (v := some (.int w10)) dX12_runHolds_22 mt_X12_numericAt in_X12_numericAt se_X12_numericAt lk_X12_569 (c_X12_numericAt ew10) eta8 (by decide) rfl rfl (by decide) (Nat.le_of_ble_eq_true rfl) (by cases eoa8; rfl) ?_
    refine jw_goto (tgt := 29) dX12_runHolds_25 (by decide) ?_
    exact l_X12_runHolds_b29  hq

theorem c_X12_runHolds {h : jw_H} {x0 : Nat} {x1 : Int32} {r : Int32} {h' : jw_H} (hq : f_X12_runHolds h x0 x1 = some (r, h')) : jw_Con (Cond.code yX12_runHolds cX12_runHolds 5 (some .boolean)) yX12_runHolds 6 [.ref x0, .int x1] h (.inl (some (.int r))) h' :=
  jw_con false (plainFor_of_name (by decide +kernel)) (fun z => nomatch z) (by simp [jw_ent, jw_sl0_nil, jw_sl0_int, jw_sl0_long, jw_sl0_ref, jw_sl0_rf, jw_sl0_scr, List.replicate]) (by simp [jw_sl0_nil, jw_sl0_int, jw_sl0_long, jw_sl0_ref, jw_sl0_rf, jw_sl0_scr]) (l_X12_runHolds hq)


/-! X12_whereHolds -/
noncomputable def g_X12_whereHolds_b61 (h : jw_H) (x0 : Nat) (x1 : Int32) : Option (Int32 × jw_H) :=
 (jw_gR h 12 (some x0) 76).bind fun v1 =>
 (jw_ai h 22 v1 x1).bind fun v2 =>
 (jw_rb v2).bind fun v3 =>
 some (v2, h)

noncomputable def f_X12_whereHolds (h : jw_H) (x0 : Nat) (x1 : Int32) : Option (Int32 × jw_H) :=
 (jw_gI h 12 (some x0) 27).bind fun v1 =>
 if (2 : Int32) ≤ v1 then ((jw_gI h 12 (some x0) 27).bind fun v3 =>
 if v3 = (2 : Int32) then ((jw_gI h 12 (some x0) 28).bind fun v17 =>
 (jw_rc h 12 (some x0)).bind fun a18 =>
 jw_b2 (f_X12_holds h a18 v17) fun w20 h19 =>
 (jw_rb w20).bind fun v21 =>
 some (w20, h19))
 else ((jw_gR h 12 (some x0) 75).bind fun v5 =>
 (jw_ai h 20 v5 x1).bind fun v6 =>
 (jw_gI h 12 (some x0) 69).bind fun v7 =>
 if v6 = v7 then (g_X12_whereHolds_b61  h x0 x1)
 else ((jw_gR h 12 (some x0) 75).bind fun v9 =>
 (jw_gI h 12 (some x0) 69).bind fun v10 =>
 (jw_si h 20 v9 x1 v10).bind fun h11 =>
 (jw_gR h11 12 (some x0) 76).bind fun v12 =>
 (jw_rc h11 12 (some x0)).bind fun a13 =>
 jw_b2 (f_X12_runHolds h11 a13 x1) fun w15 h14 =>
 (jw_si h14 22 v12 x1 (vp_nar .boolean w15)).bind fun h16 =>
 g_X12_whereHolds_b61  h16 x0 x1)))
 else (some ((1 : Int32), h))

set_option maxRecDepth 100000 in
set_option maxHeartbeats 4000000 in
theorem l_X12_whereHolds_b61 {hi : jw_H} {h : jw_H} {x0 : Nat} {x1 : Int32} {r : Int32} {h' : jw_H} (hq : g_X12_whereHolds_b61  h x0 x1 = some (r, h')) : jw_E 7 uX12_whereHolds hi 61 [some (.ref x0), some (.int x1)] [] h (.inl (some (.int r))) h' := by
  unfold g_X12_whereHolds_b61 at hq
  refine jw_aload_n dX12_whereHolds_61 (o := (some x0)) rfl ?_
  obtain ⟨v1, ev1, hq⟩ := Option.bind_eq_some_iff.mp hq
  refine jw_getR (o := (some x0)) dX12_whereHolds_62 ev1 fl_X12_96 rfl ?_
  refine jw_iload_n dX12_whereHolds_65 rfl ?_
  obtain ⟨v2, ev2, hq⟩ := Option.bind_eq_some_iff.mp hq
  refine jw_zald (o := v1) dX12_whereHolds_66 ev2 ?_
  obtain ⟨v3, ev3, hq⟩ := Option.bind_eq_some_iff.mp hq
  cases hq
  exact jw_iret (ty := .boolean) dX12_whereHolds_67 rfl (jw_rb_spec ev3)

set_option maxRecDepth 100000 in
set_option maxHeartbeats 4000000 in
theorem l_X12_whereHolds {hi : jw_H} {h : jw_H} {x0 : Nat} {x1 : Int32} {r : Int32} {h' : jw_H} (hq : f_X12_whereHolds  h x0 x1 = some (r, h')) : jw_E 7 uX12_whereHolds hi 0 [some (.ref x0), some (.int x1)] [] h (.inl (some (.int r))) h' := by
  unfold f_X12_whereHolds at hq
  refine jw_aload_n dX12_whereHolds_0 (o := (some x0)) rfl ?_
  obtain ⟨v1, ev1, hq⟩ := Option.bind_eq_some_iff.mp hq
  refine jw_getI (o := (some x0)) dX12_whereHolds_1 ev1 fl_X12_203 rfl ?_
  refine jw_iconst dX12_whereHolds_4 (v := (2 : Int32)) (by decide) ?_
  rcases jw_if hq with ⟨c2, hq⟩ | ⟨c2, hq⟩
  · refine jw_icmp_ge_t (tgt := 10) dX12_whereHolds_5 (by decide) c2 ?_
    refine jw_aload_n dX12_whereHolds_10 (o := (some x0)) rfl ?_
    obtain ⟨v3, ev3, hq⟩ := Option.bind_eq_some_iff.mp hq
    refine jw_getI (o := (some x0)) dX12_whereHolds_11 ev3 fl_X12_203 rfl ?_
    refine jw_iconst dX12_whereHolds_14 (v := (2 : Int32)) (by decide) ?_
    rcases jw_if hq with ⟨c4, hq⟩ | ⟨c4, hq⟩
    · refine jw_icmp_ne_f (tgt := 27) dX12_whereHolds_15 (by decide) c4 ?_
      refine jw_aload_n dX12_whereHolds_18 (o := (some x0)) rfl ?_
      refine jw_aload_n dX12_whereHolds_19 (o := (some x0)) rfl ?_
      obtain ⟨v17, ev17, hq⟩ := Option.bind_eq_some_iff.mp hq
      refine jw_getI (o := (some x0)) dX12_whereHolds_20 ev17 fl_X12_209 rfl ?_
      obtain ⟨a18, ea18, hq⟩ := Option.bind_eq_some_iff.mp hq
      obtain ⟨eoa18, eta18⟩ := jw_rc_spec ea18
      obtain ⟨w20, h19, ew20, hq⟩ := jw_b2_spec hq
      refine jw_callV (As := [.int v17]) (S := []) (a := a18) (v := some (.int w20)) dX12_whereHolds_23 mt_X12_holds in_X12_holds se_X12_holds lk_X12_575 (c_X12_holds ew20) eta18 (by decide) rfl rfl (by decide) (Nat.le_of_ble_eq_true rfl) (by cases eoa18; rfl) ?_
      obtain ⟨v21, ev21, hq⟩ := Option.bind_eq_some_iff.mp hq
      cases hq
      exact jw_iret (ty := .boolean) dX12_whereHolds_26 rfl (jw_rb_spec ev21)
    · refine jw_icmp_ne_t (tgt := 27) dX12_whereHolds_15 (by decide) c4 ?_
      refine jw_aload_n dX12_whereHolds_27 (o := (some x0)) rfl ?_
      obtain ⟨v5, ev5, hq⟩ := Option.bind_eq_some_iff.mp hq
      refine jw_getR (o := (some x0)) dX12_whereHolds_28 ev5 fl_X12_93 rfl ?_
      refine jw_iload_n dX12_whereHolds_31 rfl ?_
      obtain ⟨v6, ev6, hq⟩ := Option.bind_eq_some_iff.mp hq
      refine jw_iald (o := v5) dX12_whereHolds_32 ev6 ?_
      refine jw_aload_n dX12_whereHolds_33 (o := (some x0)) rfl ?_
      obtain ⟨v7, ev7, hq⟩ := Option.bind_eq_some_iff.mp hq
      refine jw_getI (o := (some x0)) dX12_whereHolds_34 ev7 fl_X12_554 rfl ?_
      rcases jw_if hq with ⟨c8, hq⟩ | ⟨c8, hq⟩
      · refine jw_icmp_eq_t (tgt := 61) dX12_whereHolds_37 (by decide) c8 ?_
        exact l_X12_whereHolds_b61  hq
      · refine jw_icmp_eq_f (tgt := 61) dX12_whereHolds_37 (by decide) c8 ?_
        refine jw_aload_n dX12_whereHolds_40 (o := (some x0)) rfl ?_
        obtain ⟨v9, ev9, hq⟩ := Option.bind_eq_some_iff.mp hq
        refine jw_getR (o := (some x0)) dX12_whereHolds_41 ev9 fl_X12_93 rfl ?_
        refine jw_iload_n dX12_whereHolds_44 rfl ?_
        refine jw_aload_n dX12_whereHolds_45 (o := (some x0)) rfl ?_
        obtain ⟨v10, ev10, hq⟩ := Option.bind_eq_some_iff.mp hq
        refine jw_getI (o := (some x0)) dX12_whereHolds_46 ev10 fl_X12_554 rfl ?_
        obtain ⟨h11, eh11, hq⟩ := Option.bind_eq_some_iff.mp hq
        refine jw_iast (o := v9) dX12_whereHolds_49 eh11 ?_
        refine jw_aload_n dX12_whereHolds_50 (o := (some x0)) rfl ?_
        obtain ⟨v12, ev12, hq⟩ := Option.bind_eq_some_iff.mp hq
        refine jw_getR (o := (some x0)) dX12_whereHolds_51 ev12 fl_X12_96 rfl ?_
        refine jw_iload_n dX12_whereHolds_54 rfl ?_
        refine jw_aload_n dX12_whereHolds_55 (o := (some x0)) rfl ?_
        refine jw_iload_n dX12_whereHolds_56 rfl ?_
        obtain ⟨a13, ea13, hq⟩ := Option.bind_eq_some_iff.mp hq
        obtain ⟨eoa13, eta13⟩ := jw_rc_spec ea13
        obtain ⟨w15, h14, ew15, hq⟩ := jw_b2_spec hq
        refine jw_callV (As := [.int x1]) (S := [.int x1, va_rf v12]) (a := a13) (v := some (.int w15)) dX12_whereHolds_57 mt_X12_runHolds in_X12_runHolds se_X12_runHolds lk_X12_578 (c_X12_runHolds ew15) eta13 (by decide) rfl rfl (by decide) (by simp only [List.map_cons, List.map_nil, List.sum_cons, List.sum_nil, jw_cat_rf, jw_cat_i, jw_cat_l, jw_cat_a, jw_cat_s] <;> decide) (by cases eoa13; rfl) ?_
        obtain ⟨h16, eh16, hq⟩ := Option.bind_eq_some_iff.mp hq
        refine jw_zast (o := v12) rfl dX12_whereHolds_60 eh16 ?_
        exact l_X12_whereHolds_b61  hq
  · refine jw_icmp_ge_f (tgt := 10) dX12_whereHolds_5 (by decide) c2 ?_
    refine jw_iconst dX12_whereHolds_8 (v := (1 : Int32)) (by decide) ?_
    cases hq
    exact jw_iret (ty := .boolean) dX12_whereHolds_9 rfl rfl

theorem c_X12_whereHolds {h : jw_H} {x0 : Nat} {x1 : Int32} {r : Int32} {h' : jw_H} (hq : f_X12_whereHolds h x0 x1 = some (r, h')) : jw_Con (Cond.code yX12_whereHolds cX12_whereHolds 2 (some .boolean)) yX12_whereHolds 7 [.ref x0, .int x1] h (.inl (some (.int r))) h' :=
  jw_con false (plainFor_of_name (by decide +kernel)) (fun z => nomatch z) (by simp [jw_ent, jw_sl0_nil, jw_sl0_int, jw_sl0_long, jw_sl0_ref, jw_sl0_rf, jw_sl0_scr, List.replicate]) (by simp [jw_sl0_nil, jw_sl0_int, jw_sl0_long, jw_sl0_ref, jw_sl0_rf, jw_sl0_scr]) (l_X12_whereHolds hq)


/-! X12_putTold -/
noncomputable def g_X12_putTold_b8 (k8 : jw_H → Nat → Int32 → Int32 → Int32 → Int32 → Option (Int32 × jw_H)) (h : jw_H) (x0 : Nat) (x2 : Int32) (x3 : Int32) (x4 : Int32) (x5 : Int32) : Option (Int32 × jw_H) :=
 if x2 ≤ x5 then (some (x4, h))
 else (if x4 = 0 then ((jw_rc h 12 (some x0)).bind fun a3 =>
 jw_b2 (f_X12_makeTold h a3 x3) fun w5 h4 =>
 (jw_rc h4 12 (some x0)).bind fun a6 =>
 jw_b2 (f_X12_lays h4 a6 (431 : Int32)) fun w8 h7 =>
 (jw_rc h7 12 (some x0)).bind fun a9 =>
 jw_b2 (f_X12_putNew h7 a9 (431 : Int32)) fun w11 h10 =>
 k8 h10 x0 x2 (w5 + (1 : Int32)) w11 (x5 + (1 : Int32)))
 else (some (x4, h)))

noncomputable def f_X12_putTold_b8 (n : Nat) : jw_H → Nat → Int32 → Int32 → Int32 → Int32 → Option (Int32 × jw_H) :=
 Nat.rec (fun _ _ _ _ _ _ => none) (fun _ k8 => g_X12_putTold_b8 k8) n

noncomputable def f_X12_putTold (h : jw_H) (x0 : Nat) (x1 : Int32) (x2 : Int32) : Option (Int32 × jw_H) :=
 f_X12_putTold_b8  jw_FU h x0 x2 x1 (0 : Int32) (0 : Int32)

set_option maxRecDepth 100000 in
set_option maxHeartbeats 4000000 in
theorem l_X12_putTold_b8g {hi : jw_H} {k8 : jw_H → Nat → Int32 → Int32 → Int32 → Int32 → Option (Int32 × jw_H)} (hk8 : ∀ (h : jw_H) (x0 : Nat) (x2 : Int32) (x3 : Int32) (x4 : Int32) (x5 : Int32) (r : Int32) (h' : jw_H), k8 h x0 x2 x3 x4 x5 = some (r, h') → jw_E 3 uX12_putTold hi 8 [some (.ref x0), none, some (.int x2), some (.int x3), some (.int x4), some (.int x5)] [] h (.inl (some (.int r))) h') {h : jw_H} {x0 : Nat} {x2 : Int32} {x3 : Int32} {x4 : Int32} {x5 : Int32} {r : Int32} {h' : jw_H} (hq : g_X12_putTold_b8 k8 h x0 x2 x3 x4 x5 = some (r, h')) : jw_E 3 uX12_putTold hi 8 [some (.ref x0), none, some (.int x2), some (.int x3), some (.int x4), some (.int x5)] [] h (.inl (some (.int r))) h' := by
  unfold g_X12_putTold_b8 at hq
  refine jw_iload dX12_putTold_8 rfl ?_
  refine jw_iload_n dX12_putTold_10 rfl ?_
  rcases jw_if hq with ⟨c1, hq⟩ | ⟨c1, hq⟩
  · refine jw_icmp_ge_t (tgt := 50) dX12_putTold_11 (by decide) c1 ?_
    refine jw_iload dX12_putTold_50 rfl ?_
    cases hq
    exact jw_iret (ty := .int) dX12_putTold_52 rfl rfl
  · refine jw_icmp_ge_f (tgt := 50) dX12_putTold_11 (by decide) c1 ?_
    refine jw_iload dX12_putTold_14 rfl ?_
    rcases jw_if hq with ⟨c2, hq⟩ | ⟨c2, hq⟩
    · refine jw_if_ne_f (tgt := 50) dX12_putTold_16 (by decide) c2 ?_
      refine jw_aload_n dX12_putTold_19 (o := (some x0)) rfl ?_
      refine jw_iload_n dX12_putTold_20 rfl ?_
      obtain ⟨a3, ea3, hq⟩ := Option.bind_eq_some_iff.mp hq
      obtain ⟨eoa3, eta3⟩ := jw_rc_spec ea3
      obtain ⟨w5, h4, ew5, hq⟩ := jw_b2_spec hq
      refine jw_callV (As := [.int x3]) (S := []) (a := a3) (v := some (.int w5)) dX12_putTold_21 mt_X12_makeTold in_X12_makeTold se_X12_makeTold lk_X12_326 (c_X12_makeTold ew5) eta3 (by decide) rfl rfl (by decide) (Nat.le_of_ble_eq_true rfl) (by cases eoa3; rfl) ?_
      refine jw_iconst dX12_putTold_24 (v := (1 : Int32)) (by decide) ?_
      refine jw_iadd dX12_putTold_25 ?_
      refine jw_istore_n (L' := [some (.ref x0), none, some (.int x2), some (.int (w5 + (1 : Int32))), some (.int x4), some (.int x5)]) dX12_putTold_26 (Nat.le_of_ble_eq_true rfl) rfl ?_
      refine jw_aload_n dX12_putTold_27 (o := (some x0)) rfl ?_
      refine jw_sipush dX12_putTold_28 (v := (431 : Int32)) (by decide) ?_
      obtain ⟨a6, ea6, hq⟩ := Option.bind_eq_some_iff.mp hq
      obtain ⟨eoa6, eta6⟩ := jw_rc_spec ea6
      obtain ⟨w8, h7, ew8, hq⟩ := jw_b2_spec hq
      refine jw_callV (As := [.int (431 : Int32)]) (S := []) (a := a6) (v := some (.int w8)) dX12_putTold_31 mt_X12_lays in_X12_lays se_X12_lays lk_X12_329 (c_X12_lays ew8) eta6 (by decide) rfl rfl (by decide) (Nat.le_of_ble_eq_true rfl) (by cases eoa6; rfl) ?_
      refine jw_pop dX12_putTold_34 rfl ?_
      refine jw_aload_n dX12_putTold_35 (o := (some x0)) rfl ?_
      refine jw_sipush dX12_putTold_36 (v := (431 : Int32)) (by decide) ?_
      obtain ⟨a9, ea9, hq⟩ := Option.bind_eq_some_iff.mp hq
      obtain ⟨eoa9, eta9⟩ := jw_rc_spec ea9
      obtain ⟨w11, h10, ew11, hq⟩ := jw_b2_spec hq
      refine jw_callV (As := [.int (431 : Int32)]) (S := []) (a := a9) (v := some (.int w11)) dX12_putTold_39 mt_X12_putNew in_X12_putNew se_X12_putNew lk_X12_560 (c_X12_putNew ew11) eta9 (by decide) rfl rfl (by decide) (Nat.le_of_ble_eq_true rfl) (by cases eoa9; rfl) ?_
      refine jw_istore (L' := [some (.ref x0), none, some (.int x2), some (.int (w5 + (1 : Int32))), some (.int w11), some (.int x5)]) dX12_putTold_42 (Nat.le_of_ble_eq_true rfl) rfl ?_
      refine jw_iinc (L' := [some (.ref x0), none, some (.int x2), some (.int (w5 + (1 : Int32))), some (.int w11), some (.int (x5 + (1 : Int32)))]) dX12_putTold_44 rfl (v := (1 : Int32)) (by decide) (Nat.le_of_ble_eq_true rfl) rfl ?_
      refine jw_goto (tgt := 8) dX12_putTold_47 (by decide) ?_
      exact hk8 _ _ _ _ _ _ _ _ hq
    · refine jw_if_ne_t (tgt := 50) dX12_putTold_16 (by decide) c2 ?_
      refine jw_iload dX12_putTold_50 rfl ?_
      cases hq
      exact jw_iret (ty := .int) dX12_putTold_52 rfl rfl

theorem l_X12_putTold_b8 {hi : jw_H} : ∀ (n : Nat) (h : jw_H) (x0 : Nat) (x2 : Int32) (x3 : Int32) (x4 : Int32) (x5 : Int32) (r : Int32) (h' : jw_H), f_X12_putTold_b8  n h x0 x2 x3 x4 x5 = some (r, h') → jw_E 3 uX12_putTold hi 8 [some (.ref x0), none, some (.int x2), some (.int x3), some (.int x4), some (.int x5)] [] h (.inl (some (.int r))) h' := by
  intro n
  induction n with
  | zero => intro h x0 x2 x3 x4 x5 r h' hq; exact nomatch hq
  | succ n ih => intro h x0 x2 x3 x4 x5 r h' hq; exact l_X12_putTold_b8g ih hq

set_option maxRecDepth 100000 in
set_option maxHeartbeats 4000000 in
theorem l_X12_putTold {hi : jw_H} {h : jw_H} {x0 : Nat} {x1 : Int32} {x2 : Int32} {r : Int32} {h' : jw_H} (hq : f_X12_putTold  h x0 x1 x2 = some (r, h')) : jw_E 3 uX12_putTold hi 0 [some (.ref x0), some (.int x1), some (.int x2), none, none, none] [] h (.inl (some (.int r))) h' := by
  unfold f_X12_putTold at hq
  refine jw_iload_n dX12_putTold_0 rfl ?_
  refine jw_istore_n (L' := [some (.ref x0), some (.int x1), some (.int x2), some (.int x1), none, none]) dX12_putTold_1 (Nat.le_of_ble_eq_true rfl) rfl ?_
  refine jw_iconst dX12_putTold_2 (v := (0 : Int32)) (by decide) ?_
  refine jw_istore (L' := [some (.ref x0), some (.int x1), some (.int x2), some (.int x1), some (.int (0 : Int32)), none]) dX12_putTold_3 (Nat.le_of_ble_eq_true rfl) rfl ?_
  refine jw_iconst dX12_putTold_5 (v := (0 : Int32)) (by decide) ?_
  refine jw_istore (L' := [some (.ref x0), some (.int x1), some (.int x2), some (.int x1), some (.int (0 : Int32)), some (.int (0 : Int32))]) dX12_putTold_6 (Nat.le_of_ble_eq_true rfl) rfl ?_
  refine jw_forget [true, false, true, true, true, true] (L' := [some (.ref x0), none, some (.int x2), some (.int x1), some (.int (0 : Int32)), some (.int (0 : Int32))]) rfl ?_
  exact l_X12_putTold_b8  jw_FU _ _ _ _ _ _ _ _ hq

theorem c_X12_putTold {h : jw_H} {x0 : Nat} {x1 : Int32} {x2 : Int32} {r : Int32} {h' : jw_H} (hq : f_X12_putTold h x0 x1 x2 = some (r, h')) : jw_Con (Cond.code yX12_putTold cX12_putTold 6 (some .int)) yX12_putTold 3 [.ref x0, .int x1, .int x2] h (.inl (some (.int r))) h' :=
  jw_con false (plainFor_of_name (by decide +kernel)) (fun z => nomatch z) (by simp [jw_ent, jw_sl0_nil, jw_sl0_int, jw_sl0_long, jw_sl0_ref, jw_sl0_rf, jw_sl0_scr, List.replicate]) (by simp [jw_sl0_nil, jw_sl0_int, jw_sl0_long, jw_sl0_ref, jw_sl0_rf, jw_sl0_scr]) (l_X12_putTold hq)


/-! X12_changeWork -/
noncomputable def g_X12_changeWork_b13 (h : jw_H) (x0 : Nat) (x1 : Int32) (t0 : Int32) : Option (Int32 × jw_H) :=
 (jw_pB h 12 (some x0) 70 (0 : Int32)).bind fun h1 =>
 (jw_rc h1 12 (some x0)).bind fun a2 =>
 jw_b2 (f_X12_putTold h1 a2 x1 t0) fun w4 h3 =>
 some (w4, h3)

noncomputable def f_X12_changeWork (h : jw_H) (x0 : Nat) (x1 : Int32) (x2 : Int32) : Option (Int32 × jw_H) :=
 if x2 = 0 then (g_X12_changeWork_b13  h x0 x1 (0 : Int32))
 else ((jw_rc h 12 (some x0)).bind fun a2 =>
 jw_b2 (f_X12_rowsAt h a2 x1) fun w4 h3 =>
 g_X12_changeWork_b13  h3 x0 x1 w4)

set_option maxRecDepth 100000 in
set_option maxHeartbeats 4000000 in
theorem l_X12_changeWork_b13 {hi : jw_H} {h : jw_H} {x0 : Nat} {x1 : Int32} {t0 : Int32} {r : Int32} {h' : jw_H} (hq : g_X12_changeWork_b13  h x0 x1 t0 = some (r, h')) : jw_E 4 uX12_changeWork hi 13 [some (.ref x0), some (.int x1), none, none, none] [.int t0] h (.inl (some (.int r))) h' := by
  unfold g_X12_changeWork_b13 at hq
  refine jw_istore_n (L' := [some (.ref x0), some (.int x1), none, some (.int t0), none]) dX12_changeWork_13 (Nat.le_of_ble_eq_true rfl) rfl ?_
  refine jw_iload_n dX12_changeWork_14 rfl ?_
  refine jw_istore (L' := [some (.ref x0), some (.int x1), none, some (.int t0), some (.int x1)]) dX12_changeWork_15 (Nat.le_of_ble_eq_true rfl) rfl ?_
  refine jw_aload_n dX12_changeWork_17 (o := (some x0)) rfl ?_
  refine jw_iconst dX12_changeWork_18 (v := (0 : Int32)) (by decide) ?_
  obtain ⟨h1, eh1, hq⟩ := Option.bind_eq_some_iff.mp hq
  refine jw_putB (o := (some x0)) dX12_changeWork_19 eh1 fl_X12_557 rfl rfl ?_
  refine jw_aload_n dX12_changeWork_22 (o := (some x0)) rfl ?_
  refine jw_iload dX12_changeWork_23 rfl ?_
  refine jw_iload_n dX12_changeWork_25 rfl ?_
  obtain ⟨a2, ea2, hq⟩ := Option.bind_eq_some_iff.mp hq
  obtain ⟨eoa2, eta2⟩ := jw_rc_spec ea2
  obtain ⟨w4, h3, ew4, hq⟩ := jw_b2_spec hq
  refine jw_callV (As := [.int x1, .int t0]) (S := []) (a := a2) (v := some (.int w4)) dX12_changeWork_26 mt_X12_putTold in_X12_putTold se_X12_putTold lk_X12_581 (c_X12_putTold ew4) eta2 (by decide) rfl rfl (by decide) (Nat.le_of_ble_eq_true rfl) (by cases eoa2; rfl) ?_
  cases hq
  exact jw_iret (ty := .int) dX12_changeWork_29 rfl rfl

set_option maxRecDepth 100000 in
set_option maxHeartbeats 4000000 in
theorem l_X12_changeWork {hi : jw_H} {h : jw_H} {x0 : Nat} {x1 : Int32} {x2 : Int32} {r : Int32} {h' : jw_H} (hq : f_X12_changeWork  h x0 x1 x2 = some (r, h')) : jw_E 4 uX12_changeWork hi 0 [some (.ref x0), some (.int x1), some (.int x2), none, none] [] h (.inl (some (.int r))) h' := by
  unfold f_X12_changeWork at hq
  refine jw_iload_n dX12_changeWork_0 rfl ?_
  rcases jw_if hq with ⟨c1, hq⟩ | ⟨c1, hq⟩
  · refine jw_if_eq_t (tgt := 12) dX12_changeWork_1 (by decide) c1 ?_
    refine jw_iconst dX12_changeWork_12 (v := (0 : Int32)) (by decide) ?_
    refine jw_forget [true, true, false, true, true] (L' := [some (.ref x0), some (.int x1), none, none, none]) rfl ?_
    exact l_X12_changeWork_b13  hq
  · refine jw_if_eq_f (tgt := 12) dX12_changeWork_1 (by decide) c1 ?_
    refine jw_aload_n dX12_changeWork_4 (o := (some x0)) rfl ?_
    refine jw_iload_n dX12_changeWork_5 rfl ?_
    obtain ⟨a2, ea2, hq⟩ := Option.bind_eq_some_iff.mp hq
    obtain ⟨eoa2, eta2⟩ := jw_rc_spec ea2
    obtain ⟨w4, h3, ew4, hq⟩ := jw_b2_spec hq
    refine jw_callV (As := [.int x1]) (S := []) (a := a2) (v := some (.int w4)) dX12_changeWork_6 mt_X12_rowsAt in_X12_rowsAt se_X12_rowsAt lk_X12_335 (c_X12_rowsAt ew4) eta2 (by decide) rfl rfl (by decide) (Nat.le_of_ble_eq_true rfl) (by cases eoa2; rfl) ?_
    refine jw_goto (tgt := 13) dX12_changeWork_9 (by decide) ?_
    refine jw_forget [true, true, false, true, true] (L' := [some (.ref x0), some (.int x1), none, none, none]) rfl ?_
    exact l_X12_changeWork_b13  hq

theorem c_X12_changeWork {h : jw_H} {x0 : Nat} {x1 : Int32} {x2 : Int32} {r : Int32} {h' : jw_H} (hq : f_X12_changeWork h x0 x1 x2 = some (r, h')) : jw_Con (Cond.code yX12_changeWork cX12_changeWork 5 (some .int)) yX12_changeWork 4 [.ref x0, .int x1, .int x2] h (.inl (some (.int r))) h' :=
  jw_con false (plainFor_of_name (by decide +kernel)) (fun z => nomatch z) (by simp [jw_ent, jw_sl0_nil, jw_sl0_int, jw_sl0_long, jw_sl0_ref, jw_sl0_rf, jw_sl0_scr, List.replicate]) (by simp [jw_sl0_nil, jw_sl0_int, jw_sl0_long, jw_sl0_ref, jw_sl0_rf, jw_sl0_scr]) (l_X12_changeWork hq)


/-! X12_dueTold -/
noncomputable def g_X12_dueTold_b11 (k11 : jw_H → Nat → Int32 → Int32 → Int32 → Option (Int32 × jw_H)) (h : jw_H) (x0 : Nat) (x2 : Int32) (x3 : Int32) (x4 : Int32) : Option (Int32 × jw_H) :=
 if x2 ≤ x4 then (some ((0 : Int32), h))
 else ((jw_rc h 12 (some x0)).bind fun a2 =>
 jw_b2 (f_X12_makeTold h a2 x3) fun w4 h3 =>
 (jw_rc h3 12 (some x0)).bind fun a5 =>
 jw_b2 (f_X12_lays h3 a5 (431 : Int32)) fun w7 h6 =>
 (jw_rc h6 12 (some x0)).bind fun a8 =>
 jw_b2 (f_X12_due h6 a8 (431 : Int32)) fun w10 h9 =>
 k11 h9 x0 x2 (w4 + (1 : Int32)) (x4 + (1 : Int32)))

noncomputable def f_X12_dueTold_b11 (n : Nat) : jw_H → Nat → Int32 → Int32 → Int32 → Option (Int32 × jw_H) :=
 Nat.rec (fun _ _ _ _ _ => none) (fun _ k11 => g_X12_dueTold_b11 k11) n

noncomputable def f_X12_dueTold (h : jw_H) (x0 : Nat) (x1 : Int32) : Option (Int32 × jw_H) :=
 (jw_rc h 12 (some x0)).bind fun a1 =>
 jw_b2 (f_X12_rowsAt h a1 x1) fun w3 h2 =>
 f_X12_dueTold_b11  jw_FU h2 x0 w3 x1 (0 : Int32)

set_option maxRecDepth 100000 in
set_option maxHeartbeats 4000000 in
theorem l_X12_dueTold_b11g {hi : jw_H} {k11 : jw_H → Nat → Int32 → Int32 → Int32 → Option (Int32 × jw_H)} (hk11 : ∀ (h : jw_H) (x0 : Nat) (x2 : Int32) (x3 : Int32) (x4 : Int32) (r : Int32) (h' : jw_H), k11 h x0 x2 x3 x4 = some (r, h') → jw_E 3 uX12_dueTold hi 11 [some (.ref x0), none, some (.int x2), some (.int x3), some (.int x4)] [] h (.inl (some (.int r))) h') {h : jw_H} {x0 : Nat} {x2 : Int32} {x3 : Int32} {x4 : Int32} {r : Int32} {h' : jw_H} (hq : g_X12_dueTold_b11 k11 h x0 x2 x3 x4 = some (r, h')) : jw_E 3 uX12_dueTold hi 11 [some (.ref x0), none, some (.int x2), some (.int x3), some (.int x4)] [] h (.inl (some (.int r))) h' := by
  unfold g_X12_dueTold_b11 at hq
  refine jw_iload dX12_dueTold_11 rfl ?_
  refine jw_iload_n dX12_dueTold_13 rfl ?_
  rcases jw_if hq with ⟨c1, hq⟩ | ⟨c1, hq⟩
  · refine jw_icmp_ge_t (tgt := 46) dX12_dueTold_14 (by decide) c1 ?_
    refine jw_iconst dX12_dueTold_46 (v := (0 : Int32)) (by decide) ?_
    cases hq
    exact jw_iret (ty := .int) dX12_dueTold_47 rfl rfl
  · refine jw_icmp_ge_f (tgt := 46) dX12_dueTold_14 (by decide) c1 ?_
    refine jw_aload_n dX12_dueTold_17 (o := (some x0)) rfl ?_
    refine jw_iload_n dX12_dueTold_18 rfl ?_
    obtain ⟨a2, ea2, hq⟩ := Option.bind_eq_some_iff.mp hq
    obtain ⟨eoa2, eta2⟩ := jw_rc_spec ea2
    obtain ⟨w4, h3, ew4, hq⟩ := jw_b2_spec hq
    refine jw_callV (As := [.int x3]) (S := []) (a := a2) (v := some (.int w4)) dX12_dueTold_19 mt_X12_makeTold in_X12_makeTold se_X12_makeTold lk_X12_326 (c_X12_makeTold ew4) eta2 (by decide) rfl rfl (by decide) (Nat.le_of_ble_eq_true rfl) (by cases eoa2; rfl) ?_
    refine jw_iconst dX12_dueTold_22 (v := (1 : Int32)) (by decide) ?_
    refine jw_iadd dX12_dueTold_23 ?_
    refine jw_istore_n (L' := [some (.ref x0), none, some (.int x2), some (.int (w4 + (1 : Int32))), some (.int x4)]) dX12_dueTold_24 (Nat.le_of_ble_eq_true rfl) rfl ?_
    refine jw_aload_n dX12_dueTold_25 (o := (some x0)) rfl ?_
    refine jw_sipush dX12_dueTold_26 (v := (431 : Int32)) (by decide) ?_
    obtain ⟨a5, ea5, hq⟩ := Option.bind_eq_some_iff.mp hq
    obtain ⟨eoa5, eta5⟩ := jw_rc_spec ea5
    obtain ⟨w7, h6, ew7, hq⟩ := jw_b2_spec hq
    refine jw_callV (As := [.int (431 : Int32)]) (S := []) (a := a5) (v := some (.int w7)) dX12_dueTold_29 mt_X12_lays in_X12_lays se_X12_lays lk_X12_329 (c_X12_lays ew7) eta5 (by decide) rfl rfl (by decide) (Nat.le_of_ble_eq_true rfl) (by cases eoa5; rfl) ?_
    refine jw_pop dX12_dueTold_32 rfl ?_
    refine jw_aload_n dX12_dueTold_33 (o := (some x0)) rfl ?_
    refine jw_sipush dX12_dueTold_34 (v := (431 : Int32)) (by decide) ?_
    obtain ⟨a8, ea8, hq⟩ := Option.bind_eq_some_iff.mp hq
    obtain ⟨eoa8, eta8⟩ := jw_rc_spec ea8
    obtain ⟨w10, h9, ew10, hq⟩ := jw_b2_spec hq
    refine jw_callV (As := [.int (431 : Int32)]) (S := []) (a := a8) (v := none) dX12_dueTold_37 mt_X12_due in_X12_due se_X12_due lk_X12_584 (c_X12_due ew10) eta8 (by decide) rfl rfl (by decide) (Nat.le_of_ble_eq_true rfl) (by cases eoa8; rfl) ?_
    refine jw_iinc (L' := [some (.ref x0), none, some (.int x2), some (.int (w4 + (1 : Int32))), some (.int (x4 + (1 : Int32)))]) dX12_dueTold_40 rfl (v := (1 : Int32)) (by decide) (Nat.le_of_ble_eq_true rfl) rfl ?_
    refine jw_goto (tgt := 11) dX12_dueTold_43 (by decide) ?_
    exact hk11 _ _ _ _ _ _ _ hq

theorem l_X12_dueTold_b11 {hi : jw_H} : ∀ (n : Nat) (h : jw_H) (x0 : Nat) (x2 : Int32) (x3 : Int32) (x4 : Int32) (r : Int32) (h' : jw_H), f_X12_dueTold_b11  n h x0 x2 x3 x4 = some (r, h') → jw_E 3 uX12_dueTold hi 11 [some (.ref x0), none, some (.int x2), some (.int x3), some (.int x4)] [] h (.inl (some (.int r))) h' := by
  intro n
  induction n with
  | zero => intro h x0 x2 x3 x4 r h' hq; exact nomatch hq
  | succ n ih => intro h x0 x2 x3 x4 r h' hq; exact l_X12_dueTold_b11g ih hq

set_option maxRecDepth 100000 in
set_option maxHeartbeats 4000000 in
theorem l_X12_dueTold {hi : jw_H} {h : jw_H} {x0 : Nat} {x1 : Int32} {r : Int32} {h' : jw_H} (hq : f_X12_dueTold  h x0 x1 = some (r, h')) : jw_E 3 uX12_dueTold hi 0 [some (.ref x0), some (.int x1), none, none, none] [] h (.inl (some (.int r))) h' := by
  unfold f_X12_dueTold at hq
  refine jw_aload_n dX12_dueTold_0 (o := (some x0)) rfl ?_
  refine jw_iload_n dX12_dueTold_1 rfl ?_
  obtain ⟨a1, ea1, hq⟩ := Option.bind_eq_some_iff.mp hq
  obtain ⟨eoa1, eta1⟩ := jw_rc_spec ea1
  obtain ⟨w3, h2, ew3, hq⟩ := jw_b2_spec hq
  refine jw_callV (As := [.int x1]) (S := []) (a := a1) (v := some (.int w3)) dX12_dueTold_2 mt_X12_rowsAt in_X12_rowsAt se_X12_rowsAt lk_X12_335 (c_X12_rowsAt ew3) eta1 (by decide) rfl rfl (by decide) (Nat.le_of_ble_eq_true rfl) (by cases eoa1; rfl) ?_
  refine jw_istore_n (L' := [some (.ref x0), some (.int x1), some (.int w3), none, none]) dX12_dueTold_5 (Nat.le_of_ble_eq_true rfl) rfl ?_
  refine jw_iload_n dX12_dueTold_6 rfl ?_
  refine jw_istore_n (L' := [some (.ref x0), some (.int x1), some (.int w3), some (.int x1), none]) dX12_dueTold_7 (Nat.le_of_ble_eq_true rfl) rfl ?_
  refine jw_iconst dX12_dueTold_8 (v := (0 : Int32)) (by decide) ?_
  refine jw_istore (L' := [some (.ref x0), some (.int x1), some (.int w3), some (.int x1), some (.int (0 : Int32))]) dX12_dueTold_9 (Nat.le_of_ble_eq_true rfl) rfl ?_
  refine jw_forget [true, false, true, true, true] (L' := [some (.ref x0), none, some (.int w3), some (.int x1), some (.int (0 : Int32))]) rfl ?_
  exact l_X12_dueTold_b11  jw_FU _ _ _ _ _ _ _ hq

theorem c_X12_dueTold {h : jw_H} {x0 : Nat} {x1 : Int32} {r : Int32} {h' : jw_H} (hq : f_X12_dueTold h x0 x1 = some (r, h')) : jw_Con (Cond.code yX12_dueTold cX12_dueTold 5 (some .int)) yX12_dueTold 3 [.ref x0, .int x1] h (.inl (some (.int r))) h' :=
  jw_con false (plainFor_of_name (by decide +kernel)) (fun z => nomatch z) (by simp [jw_ent, jw_sl0_nil, jw_sl0_int, jw_sl0_long, jw_sl0_ref, jw_sl0_rf, jw_sl0_scr, List.replicate]) (by simp [jw_sl0_nil, jw_sl0_int, jw_sl0_long, jw_sl0_ref, jw_sl0_rf, jw_sl0_scr]) (l_X12_dueTold hq)


/-! X12_joinNext -/
noncomputable def f_X12_joinNext (h : jw_H) (x0 : Nat) : Option (Int32 × jw_H) :=
 (jw_gI h 12 (some x0) 66).bind fun v1 =>
 (jw_gI h 12 (some x0) 65).bind fun v2 =>
 if v1 = v2 then (some ((0 : Int32), h))
 else ((jw_pI h 12 (some x0) 20 (0 : Int32)).bind fun h4 =>
 (jw_rc h4 12 (some x0)).bind fun a5 =>
 jw_b2 (f_X12_len h4 a5 (429 : Int32)) fun w7 h6 =>
 (jw_rc h6 12 (some x0)).bind fun a8 =>
 jw_b2 (f_X12_makesRow h6 a8 (429 : Int32) (0 : Int32) w7) fun w10 h9 =>
 (jw_gI h9 12 (some x0) 66).bind fun v11 =>
 (jw_gI h9 12 (some x0) 66).bind fun v12 =>
 (jw_rc h9 12 (some x0)).bind fun a13 =>
 jw_b2 (f_X12_len h9 a13 ((0 : Int32) + v12)) fun w15 h14 =>
 (jw_rc h14 12 (some x0)).bind fun a16 =>
 jw_b2 (f_X12_makesRow h14 a16 ((0 : Int32) + v11) (0 : Int32) w15) fun w18 h17 =>
 (jw_rc h17 12 (some x0)).bind fun a19 =>
 jw_b2 (f_X12_lays h17 a19 (429 : Int32)) fun w21 h20 =>
 if w21 = 0 then (some ((4 : Int32), h20))
 else ((jw_gR h20 12 (some x0) 7).bind fun v23 =>
 (jw_gI h20 12 (some x0) 66).bind fun v24 =>
 (jw_ai h20 20 v23 v24).bind fun v25 =>
 (jw_rc h20 12 (some x0)).bind fun a26 =>
 jw_b2 (f_X12_unmark h20 a26 v25) fun w28 h27 =>
 (jw_gI h27 12 (some x0) 66).bind fun v29 =>
 (jw_pI h27 12 (some x0) 66 (v29 + (1 : Int32))).bind fun h30 =>
 (jw_gI h30 12 (some x0) 66).bind fun v31 =>
 (jw_pI h30 12 (some x0) 68 v31).bind fun h32 =>
 some ((0 : Int32), h32)))

set_option maxRecDepth 100000 in
set_option maxHeartbeats 4000000 in
theorem l_X12_joinNext {hi : jw_H} {h : jw_H} {x0 : Nat} {r : Int32} {h' : jw_H} (hq : f_X12_joinNext  h x0 = some (r, h')) : jw_E 2 uX12_joinNext hi 0 [some (.ref x0)] [] h (.inl (some (.int r))) h' := by
  unfold f_X12_joinNext at hq
  refine jw_aload_n dX12_joinNext_0 (o := (some x0)) rfl ?_
  obtain ⟨v1, ev1, hq⟩ := Option.bind_eq_some_iff.mp hq
  refine jw_getI (o := (some x0)) dX12_joinNext_1 ev1 fl_X12_545 rfl ?_
  refine jw_aload_n dX12_joinNext_4 (o := (some x0)) rfl ?_
  obtain ⟨v2, ev2, hq⟩ := Option.bind_eq_some_iff.mp hq
  refine jw_getI (o := (some x0)) dX12_joinNext_5 ev2 fl_X12_563 rfl ?_
  rcases jw_if hq with ⟨c3, hq⟩ | ⟨c3, hq⟩
  · refine jw_icmp_ne_f (tgt := 13) dX12_joinNext_8 (by decide) c3 ?_
    refine jw_iconst dX12_joinNext_11 (v := (0 : Int32)) (by decide) ?_
    cases hq
    exact jw_iret (ty := .int) dX12_joinNext_12 rfl rfl
  · refine jw_icmp_ne_t (tgt := 13) dX12_joinNext_8 (by decide) c3 ?_
    refine jw_aload_n dX12_joinNext_13 (o := (some x0)) rfl ?_
    refine jw_iconst dX12_joinNext_14 (v := (0 : Int32)) (by decide) ?_
    obtain ⟨h4, eh4, hq⟩ := Option.bind_eq_some_iff.mp hq
    refine jw_putI (o := (some x0)) dX12_joinNext_15 eh4 fl_X12_117 rfl rfl ?_
    refine jw_aload_n dX12_joinNext_18 (o := (some x0)) rfl ?_
    refine jw_sipush dX12_joinNext_19 (v := (429 : Int32)) (by decide) ?_
    refine jw_iconst dX12_joinNext_22 (v := (0 : Int32)) (by decide) ?_
    refine jw_aload_n dX12_joinNext_23 (o := (some x0)) rfl ?_
    refine jw_sipush dX12_joinNext_24 (v := (429 : Int32)) (by decide) ?_
    obtain ⟨a5, ea5, hq⟩ := Option.bind_eq_some_iff.mp hq
    obtain ⟨eoa5, eta5⟩ := jw_rc_spec ea5
    obtain ⟨w7, h6, ew7, hq⟩ := jw_b2_spec hq
    refine jw_callV (As := [.int (429 : Int32)]) (S := [.int (0 : Int32), .int (429 : Int32), .ref x0]) (a := a5) (v := some (.int w7)) dX12_joinNext_27 mt_X12_len in_X12_len se_X12_len lk_X12_109 (c_X12_len ew7) eta5 (by decide) rfl rfl (by decide) (Nat.le_of_ble_eq_true rfl) (by cases eoa5; rfl) ?_
    obtain ⟨a8, ea8, hq⟩ := Option.bind_eq_some_iff.mp hq
    obtain ⟨eoa8, eta8⟩ := jw_rc_spec ea8
    obtain ⟨w10, h9, ew10, hq⟩ := jw_b2_spec hq
    refine jw_callV (As := [.int (429 : Int32), .int (0 : Int32), .int w7]) (S := []) (a := a8) (v := none) dX12_joinNext_30 mt_X12_makesRow in_X12_makesRow se_X12_makesRow lk_X12_348 (c_X12_makesRow ew10) eta8 (by decide) rfl rfl (by decide) (Nat.le_of_ble_eq_true rfl) (by cases eoa8; rfl) ?_
    refine jw_aload_n dX12_joinNext_33 (o := (some x0)) rfl ?_
    refine jw_iconst dX12_joinNext_34 (v := (0 : Int32)) (by decide) ?_
    refine jw_aload_n dX12_joinNext_35 (o := (some x0)) rfl ?_
    obtain ⟨v11, ev11, hq⟩ := Option.bind_eq_some_iff.mp hq
    refine jw_getI (o := (some x0)) dX12_joinNext_36 ev11 fl_X12_545 rfl ?_
    refine jw_iadd dX12_joinNext_39 ?_
    refine jw_iconst dX12_joinNext_40 (v := (0 : Int32)) (by decide) ?_
    refine jw_aload_n dX12_joinNext_41 (o := (some x0)) rfl ?_
    refine jw_iconst dX12_joinNext_42 (v := (0 : Int32)) (by decide) ?_
    refine jw_aload_n dX12_joinNext_43 (o := (some x0)) rfl ?_
    obtain ⟨v12, ev12, hq⟩ := Option.bind_eq_some_iff.mp hq
    refine jw_getI (o := (some x0)) dX12_joinNext_44 ev12 fl_X12_545 rfl ?_
    refine jw_iadd dX12_joinNext_47 ?_
    obtain ⟨a13, ea13, hq⟩ := Option.bind_eq_some_iff.mp hq
    obtain ⟨eoa13, eta13⟩ := jw_rc_spec ea13
    obtain ⟨w15, h14, ew15, hq⟩ := jw_b2_spec hq
    refine jw_callV (As := [.int ((0 : Int32) + v12)]) (S := [.int (0 : Int32), .int ((0 : Int32) + v11), .ref x0]) (a := a13) (v := some (.int w15)) dX12_joinNext_48 mt_X12_len in_X12_len se_X12_len lk_X12_109 (c_X12_len ew15) eta13 (by decide) rfl rfl (by decide) (Nat.le_of_ble_eq_true rfl) (by cases eoa13; rfl) ?_
    obtain ⟨a16, ea16, hq⟩ := Option.bind_eq_some_iff.mp hq
    obtain ⟨eoa16, eta16⟩ := jw_rc_spec ea16
    obtain ⟨w18, h17, ew18, hq⟩ := jw_b2_spec hq
    refine jw_callV (As := [.int ((0 : Int32) + v11), .int (0 : Int32), .int w15]) (S := []) (a := a16) (v := none) dX12_joinNext_51 mt_X12_makesRow in_X12_makesRow se_X12_makesRow lk_X12_348 (c_X12_makesRow ew18) eta16 (by decide) rfl rfl (by decide) (Nat.le_of_ble_eq_true rfl) (by cases eoa16; rfl) ?_
    refine jw_aload_n dX12_joinNext_54 (o := (some x0)) rfl ?_
    refine jw_sipush dX12_joinNext_55 (v := (429 : Int32)) (by decide) ?_
    obtain ⟨a19, ea19, hq⟩ := Option.bind_eq_some_iff.mp hq
    obtain ⟨eoa19, eta19⟩ := jw_rc_spec ea19
    obtain ⟨w21, h20, ew21, hq⟩ := jw_b2_spec hq
    refine jw_callV (As := [.int (429 : Int32)]) (S := []) (a := a19) (v := some (.int w21)) dX12_joinNext_58 mt_X12_lays in_X12_lays se_X12_lays lk_X12_329 (c_X12_lays ew21) eta19 (by decide) rfl rfl (by decide) (Nat.le_of_ble_eq_true rfl) (by cases eoa19; rfl) ?_
    rcases jw_if hq with ⟨c22, hq⟩ | ⟨c22, hq⟩
    · refine jw_if_ne_f (tgt := 66) dX12_joinNext_61 (by decide) c22 ?_
      refine jw_iconst dX12_joinNext_64 (v := (4 : Int32)) (by decide) ?_
      cases hq
      exact jw_iret (ty := .int) dX12_joinNext_65 rfl rfl
    · refine jw_if_ne_t (tgt := 66) dX12_joinNext_61 (by decide) c22 ?_
      refine jw_aload_n dX12_joinNext_66 (o := (some x0)) rfl ?_
      refine jw_aload_n dX12_joinNext_67 (o := (some x0)) rfl ?_
      obtain ⟨v23, ev23, hq⟩ := Option.bind_eq_some_iff.mp hq
      refine jw_getR (o := (some x0)) dX12_joinNext_68 ev23 fl_X12_26 rfl ?_
      refine jw_aload_n dX12_joinNext_71 (o := (some x0)) rfl ?_
      obtain ⟨v24, ev24, hq⟩ := Option.bind_eq_some_iff.mp hq
      refine jw_getI (o := (some x0)) dX12_joinNext_72 ev24 fl_X12_545 rfl ?_
      obtain ⟨v25, ev25, hq⟩ := Option.bind_eq_some_iff.mp hq
      refine jw_iald (o := v23) dX12_joinNext_75 ev25 ?_
      obtain ⟨a26, ea26, hq⟩ := Option.bind_eq_some_iff.mp hq
      obtain ⟨eoa26, eta26⟩ := jw_rc_spec ea26
      obtain ⟨w28, h27, ew28, hq⟩ := jw_b2_spec hq
      refine jw_callV (As := [.int v25]) (S := []) (a := a26) (v := none) dX12_joinNext_76 mt_X12_unmark in_X12_unmark se_X12_unmark lk_X12_137 (c_X12_unmark ew28) eta26 (by decide) rfl rfl (by decide) (Nat.le_of_ble_eq_true rfl) (by cases eoa26; rfl) ?_
      refine jw_aload_n dX12_joinNext_79 (o := (some x0)) rfl ?_
      refine jw_dup dX12_joinNext_80 rfl ?_
      obtain ⟨v29, ev29, hq⟩ := Option.bind_eq_some_iff.mp hq
      refine jw_getI (o := (some x0)) dX12_joinNext_81 ev29 fl_X12_545 rfl ?_
      refine jw_iconst dX12_joinNext_84 (v := (1 : Int32)) (by decide) ?_
      refine jw_iadd dX12_joinNext_85 ?_
      obtain ⟨h30, eh30, hq⟩ := Option.bind_eq_some_iff.mp hq
      refine jw_putI (o := (some x0)) dX12_joinNext_86 eh30 fl_X12_545 rfl rfl ?_
      refine jw_aload_n dX12_joinNext_89 (o := (some x0)) rfl ?_
      refine jw_aload_n dX12_joinNext_90 (o := (some x0)) rfl ?_
      obtain ⟨v31, ev31, hq⟩ := Option.bind_eq_some_iff.mp hq
      refine jw_getI (o := (some x0)) dX12_joinNext_91 ev31 fl_X12_545 rfl ?_
      obtain ⟨h32, eh32, hq⟩ := Option.bind_eq_some_iff.mp hq
      refine jw_putI (o := (some x0)) dX12_joinNext_94 eh32 fl_X12_551 rfl rfl ?_
      refine jw_iconst dX12_joinNext_97 (v := (0 : Int32)) (by decide) ?_
      cases hq
      exact jw_iret (ty := .int) dX12_joinNext_98 rfl rfl

theorem c_X12_joinNext {h : jw_H} {x0 : Nat} {r : Int32} {h' : jw_H} (hq : f_X12_joinNext h x0 = some (r, h')) : jw_Con (Cond.code yX12_joinNext cX12_joinNext 1 (some .int)) yX12_joinNext 2 [.ref x0] h (.inl (some (.int r))) h' :=
  jw_con false (plainFor_of_name (by decide +kernel)) (fun z => nomatch z) (by simp [jw_ent, jw_sl0_nil, jw_sl0_int, jw_sl0_long, jw_sl0_ref, jw_sl0_rf, jw_sl0_scr, List.replicate]) (by simp [jw_sl0_nil, jw_sl0_int, jw_sl0_long, jw_sl0_ref, jw_sl0_rf, jw_sl0_scr]) (l_X12_joinNext hq)


/-! X12_partWork -/
noncomputable def f_X12_partWork (h : jw_H) (x0 : Nat) (x1 : Int32) : Option (Int32 × jw_H) :=
 (jw_rc h 12 (some x0)).bind fun a1 =>
 jw_b2 (f_X12_len h a1 (429 : Int32)) fun w3 h2 =>
 if w3 ≤ x1 then (some ((0 : Int32), h2))
 else ((jw_pI h2 12 (some x0) 20 (0 : Int32)).bind fun h5 =>
 (jw_rc h5 12 (some x0)).bind fun a6 =>
 jw_b2 (f_X12_len h5 a6 (429 : Int32)) fun w8 h7 =>
 (jw_rc h7 12 (some x0)).bind fun a9 =>
 jw_b2 (f_X12_makesRow h7 a9 (429 : Int32) x1 w8) fun w11 h10 =>
 (jw_rc h10 12 (some x0)).bind fun a12 =>
 jw_b2 (f_X12_lays h10 a12 (431 : Int32)) fun w14 h13 =>
 (jw_rc h13 12 (some x0)).bind fun a15 =>
 jw_b2 (f_X12_due h13 a15 (431 : Int32)) fun w17 h16 =>
 (jw_rc h16 12 (some x0)).bind fun a18 =>
 jw_b2 (f_X12_cutTo h16 a18 (429 : Int32) x1) fun w20 h19 =>
 some ((0 : Int32), h19))

set_option maxRecDepth 100000 in
set_option maxHeartbeats 4000000 in
theorem l_X12_partWork {hi : jw_H} {h : jw_H} {x0 : Nat} {x1 : Int32} {r : Int32} {h' : jw_H} (hq : f_X12_partWork  h x0 x1 = some (r, h')) : jw_E 2 uX12_partWork hi 0 [some (.ref x0), some (.int x1)] [] h (.inl (some (.int r))) h' := by
  unfold f_X12_partWork at hq
  refine jw_aload_n dX12_partWork_0 (o := (some x0)) rfl ?_
  refine jw_sipush dX12_partWork_1 (v := (429 : Int32)) (by decide) ?_
  obtain ⟨a1, ea1, hq⟩ := Option.bind_eq_some_iff.mp hq
  obtain ⟨eoa1, eta1⟩ := jw_rc_spec ea1
  obtain ⟨w3, h2, ew3, hq⟩ := jw_b2_spec hq
  refine jw_callV (As := [.int (429 : Int32)]) (S := []) (a := a1) (v := some (.int w3)) dX12_partWork_4 mt_X12_len in_X12_len se_X12_len lk_X12_109 (c_X12_len ew3) eta1 (by decide) rfl rfl (by decide) (Nat.le_of_ble_eq_true rfl) (by cases eoa1; rfl) ?_
  refine jw_iload_n dX12_partWork_7 rfl ?_
  rcases jw_if hq with ⟨c4, hq⟩ | ⟨c4, hq⟩
  · refine jw_icmp_le_t (tgt := 54) dX12_partWork_8 (by decide) c4 ?_
    refine jw_iconst dX12_partWork_54 (v := (0 : Int32)) (by decide) ?_
    cases hq
    exact jw_iret (ty := .int) dX12_partWork_55 rfl rfl
  · refine jw_icmp_le_f (tgt := 54) dX12_partWork_8 (by decide) c4 ?_
    refine jw_aload_n dX12_partWork_11 (o := (some x0)) rfl ?_
    refine jw_iconst dX12_partWork_12 (v := (0 : Int32)) (by decide) ?_
    obtain ⟨h5, eh5, hq⟩ := Option.bind_eq_some_iff.mp hq
    refine jw_putI (o := (some x0)) dX12_partWork_13 eh5 fl_X12_117 rfl rfl ?_
    refine jw_aload_n dX12_partWork_16 (o := (some x0)) rfl ?_
    refine jw_sipush dX12_partWork_17 (v := (429 : Int32)) (by decide) ?_
    refine jw_iload_n dX12_partWork_20 rfl ?_
    refine jw_aload_n dX12_partWork_21 (o := (some x0)) rfl ?_
    refine jw_sipush dX12_partWork_22 (v := (429 : Int32)) (by decide) ?_
    obtain ⟨a6, ea6, hq⟩ := Option.bind_eq_some_iff.mp hq
    obtain ⟨eoa6, eta6⟩ := jw_rc_spec ea6
    obtain ⟨w8, h7, ew8, hq⟩ := jw_b2_spec hq
    refine jw_callV (As := [.int (429 : Int32)]) (S := [.int x1, .int (429 : Int32), .ref x0]) (a := a6) (v := some (.int w8)) dX12_partWork_25 mt_X12_len in_X12_len se_X12_len lk_X12_109 (c_X12_len ew8) eta6 (by decide) rfl rfl (by decide) (Nat.le_of_ble_eq_true rfl) (by cases eoa6; rfl) ?_
    obtain ⟨a9, ea9, hq⟩ := Option.bind_eq_some_iff.mp hq
    obtain ⟨eoa9, eta9⟩ := jw_rc_spec ea9
    obtain ⟨w11, h10, ew11, hq⟩ := jw_b2_spec hq
    refine jw_callV (As := [.int (429 : Int32), .int x1, .int w8]) (S := []) (a := a9) (v := none) dX12_partWork_28 mt_X12_makesRow in_X12_makesRow se_X12_makesRow lk_X12_348 (c_X12_makesRow ew11) eta9 (by decide) rfl rfl (by decide) (Nat.le_of_ble_eq_true rfl) (by cases eoa9; rfl) ?_
    refine jw_aload_n dX12_partWork_31 (o := (some x0)) rfl ?_
    refine jw_sipush dX12_partWork_32 (v := (431 : Int32)) (by decide) ?_
    obtain ⟨a12, ea12, hq⟩ := Option.bind_eq_some_iff.mp hq
    obtain ⟨eoa12, eta12⟩ := jw_rc_spec ea12
    obtain ⟨w14, h13, ew14, hq⟩ := jw_b2_spec hq
    refine jw_callV (As := [.int (431 : Int32)]) (S := []) (a := a12) (v := some (.int w14)) dX12_partWork_35 mt_X12_lays in_X12_lays se_X12_lays lk_X12_329 (c_X12_lays ew14) eta12 (by decide) rfl rfl (by decide) (Nat.le_of_ble_eq_true rfl) (by cases eoa12; rfl) ?_
    refine jw_pop dX12_partWork_38 rfl ?_
    refine jw_aload_n dX12_partWork_39 (o := (some x0)) rfl ?_
    refine jw_sipush dX12_partWork_40 (v := (431 : Int32)) (by decide) ?_
    obtain ⟨a15, ea15, hq⟩ := Option.bind_eq_some_iff.mp hq
    obtain ⟨eoa15, eta15⟩ := jw_rc_spec ea15
    obtain ⟨w17, h16, ew17, hq⟩ := jw_b2_spec hq
    refine jw_callV (As := [.int (431 : Int32)]) (S := []) (a := a15) (v := none) dX12_partWork_43 mt_X12_due in_X12_due se_X12_due lk_X12_584 (c_X12_due ew17) eta15 (by decide) rfl rfl (by decide) (Nat.le_of_ble_eq_true rfl) (by cases eoa15; rfl) ?_
    refine jw_aload_n dX12_partWork_46 (o := (some x0)) rfl ?_
    refine jw_sipush dX12_partWork_47 (v := (429 : Int32)) (by decide) ?_
    refine jw_iload_n dX12_partWork_50 rfl ?_
    obtain ⟨a18, ea18, hq⟩ := Option.bind_eq_some_iff.mp hq
    obtain ⟨eoa18, eta18⟩ := jw_rc_spec ea18
    obtain ⟨w20, h19, ew20, hq⟩ := jw_b2_spec hq
    refine jw_callV (As := [.int (429 : Int32), .int x1]) (S := []) (a := a18) (v := none) dX12_partWork_51 mt_X12_cutTo in_X12_cutTo se_X12_cutTo lk_X12_351 (c_X12_cutTo ew20) eta18 (by decide) rfl rfl (by decide) (Nat.le_of_ble_eq_true rfl) (by cases eoa18; rfl) ?_
    refine jw_iconst dX12_partWork_54 (v := (0 : Int32)) (by decide) ?_
    cases hq
    exact jw_iret (ty := .int) dX12_partWork_55 rfl rfl

theorem c_X12_partWork {h : jw_H} {x0 : Nat} {x1 : Int32} {r : Int32} {h' : jw_H} (hq : f_X12_partWork h x0 x1 = some (r, h')) : jw_Con (Cond.code yX12_partWork cX12_partWork 2 (some .int)) yX12_partWork 2 [.ref x0, .int x1] h (.inl (some (.int r))) h' :=
  jw_con false (plainFor_of_name (by decide +kernel)) (fun z => nomatch z) (by simp [jw_ent, jw_sl0_nil, jw_sl0_int, jw_sl0_long, jw_sl0_ref, jw_sl0_rf, jw_sl0_scr, List.replicate]) (by simp [jw_sl0_nil, jw_sl0_int, jw_sl0_long, jw_sl0_ref, jw_sl0_rf, jw_sl0_scr]) (l_X12_partWork hq)


/-! X12_tellWork -/
noncomputable def g_X12_tellWork_b50 (h : jw_H) (x0 : Nat) : Option (Int32 × jw_H) :=
 (jw_rc h 12 (some x0)).bind fun a1 =>
 jw_b2 (f_X12_tells h a1) fun w3 h2 =>
 some (w3, h2)

noncomputable def g_X12_tellWork_b31 (h : jw_H) (x0 : Nat) (x2 : Int32) : Option (Int32 × jw_H) :=
 if x2 = 0 then (g_X12_tellWork_b50  h x0)
 else ((jw_rc h 12 (some x0)).bind fun a2 =>
 jw_b2 (f_X12_len h a2 (429 : Int32)) fun w4 h3 =>
 (jw_rc h3 12 (some x0)).bind fun a5 =>
 jw_b2 (f_X12_makesRow h3 a5 (429 : Int32) (0 : Int32) w4) fun w7 h6 =>
 g_X12_tellWork_b50  h6 x0)

noncomputable def g_X12_tellWork_b17 (h : jw_H) (x0 : Nat) (x1 : Int32) (x2 : Int32) : Option (Int32 × jw_H) :=
 if x1 = 0 then (g_X12_tellWork_b31  h x0 x2)
 else (if x2 = 0 then (g_X12_tellWork_b31  h x0 x2)
 else ((jw_rc h 12 (some x0)).bind fun a3 =>
 jw_b2 (f_X12_makes h a3 (32 : Int32)) fun w5 h4 =>
 g_X12_tellWork_b31  h4 x0 x2))

noncomputable def f_X12_tellWork (h : jw_H) (x0 : Nat) (x1 : Int32) (x2 : Int32) : Option (Int32 × jw_H) :=
 (jw_pI h 12 (some x0) 20 (0 : Int32)).bind fun h1 =>
 if x1 = 0 then (g_X12_tellWork_b17  h1 x0 x1 x2)
 else ((jw_gI h1 12 (some x0) 68).bind fun v3 =>
 (jw_rc h1 12 (some x0)).bind fun a4 =>
 jw_b2 (f_X12_makesNumber h1 a4 v3) fun w6 h5 =>
 g_X12_tellWork_b17  h5 x0 x1 x2)

set_option maxRecDepth 100000 in
set_option maxHeartbeats 4000000 in
theorem l_X12_tellWork_b50 {hi : jw_H} {h : jw_H} {x0 : Nat} {r : Int32} {h' : jw_H} (hq : g_X12_tellWork_b50  h x0 = some (r, h')) : jw_E 2 uX12_tellWork hi 50 [some (.ref x0), none, none] [] h (.inl (some (.int r))) h' := by
  unfold g_X12_tellWork_b50 at hq
  refine jw_aload_n dX12_tellWork_50 (o := (some x0)) rfl ?_
  obtain ⟨a1, ea1, hq⟩ := Option.bind_eq_some_iff.mp hq
  obtain ⟨eoa1, eta1⟩ := jw_rc_spec ea1
  obtain ⟨w3, h2, ew3, hq⟩ := jw_b2_spec hq
  refine jw_callV (As := []) (S := []) (a := a1) (v := some (.int w3)) dX12_tellWork_51 mt_X12_tells in_X12_tells se_X12_tells lk_X12_363 (c_X12_tells ew3) eta1 (by decide) rfl rfl (by decide) (Nat.le_of_ble_eq_true rfl) (by cases eoa1; rfl) ?_
  cases hq
  exact jw_iret (ty := .int) dX12_tellWork_54 rfl rfl

set_option maxRecDepth 100000 in
set_option maxHeartbeats 4000000 in
theorem l_X12_tellWork_b31 {hi : jw_H} {h : jw_H} {x0 : Nat} {x2 : Int32} {r : Int32} {h' : jw_H} (hq : g_X12_tellWork_b31  h x0 x2 = some (r, h')) : jw_E 2 uX12_tellWork hi 31 [some (.ref x0), none, some (.int x2)] [] h (.inl (some (.int r))) h' := by
  unfold g_X12_tellWork_b31 at hq
  refine jw_iload_n dX12_tellWork_31 rfl ?_
  rcases jw_if hq with ⟨c1, hq⟩ | ⟨c1, hq⟩
  · refine jw_if_eq_t (tgt := 50) dX12_tellWork_32 (by decide) c1 ?_
    refine jw_forget [true, true, false] (L' := [some (.ref x0), none, none]) rfl ?_
    exact l_X12_tellWork_b50  hq
  · refine jw_if_eq_f (tgt := 50) dX12_tellWork_32 (by decide) c1 ?_
    refine jw_aload_n dX12_tellWork_35 (o := (some x0)) rfl ?_
    refine jw_sipush dX12_tellWork_36 (v := (429 : Int32)) (by decide) ?_
    refine jw_iconst dX12_tellWork_39 (v := (0 : Int32)) (by decide) ?_
    refine jw_aload_n dX12_tellWork_40 (o := (some x0)) rfl ?_
    refine jw_sipush dX12_tellWork_41 (v := (429 : Int32)) (by decide) ?_
    obtain ⟨a2, ea2, hq⟩ := Option.bind_eq_some_iff.mp hq
    obtain ⟨eoa2, eta2⟩ := jw_rc_spec ea2
    obtain ⟨w4, h3, ew4, hq⟩ := jw_b2_spec hq
    refine jw_callV (As := [.int (429 : Int32)]) (S := [.int (0 : Int32), .int (429 : Int32), .ref x0]) (a := a2) (v := some (.int w4)) dX12_tellWork_44 mt_X12_len in_X12_len se_X12_len lk_X12_109 (c_X12_len ew4) eta2 (by decide) rfl rfl (by decide) (Nat.le_of_ble_eq_true rfl) (by cases eoa2; rfl) ?_
    obtain ⟨a5, ea5, hq⟩ := Option.bind_eq_some_iff.mp hq
    obtain ⟨eoa5, eta5⟩ := jw_rc_spec ea5
    obtain ⟨w7, h6, ew7, hq⟩ := jw_b2_spec hq
    refine jw_callV (As := [.int (429 : Int32), .int (0 : Int32), .int w4]) (S := []) (a := a5) (v := none) dX12_tellWork_47 mt_X12_makesRow in_X12_makesRow se_X12_makesRow lk_X12_348 (c_X12_makesRow ew7) eta5 (by decide) rfl rfl (by decide) (Nat.le_of_ble_eq_true rfl) (by cases eoa5; rfl) ?_
    refine jw_forget [true, true, false] (L' := [some (.ref x0), none, none]) rfl ?_
    exact l_X12_tellWork_b50  hq

set_option maxRecDepth 100000 in
set_option maxHeartbeats 4000000 in
theorem l_X12_tellWork_b17 {hi : jw_H} {h : jw_H} {x0 : Nat} {x1 : Int32} {x2 : Int32} {r : Int32} {h' : jw_H} (hq : g_X12_tellWork_b17  h x0 x1 x2 = some (r, h')) : jw_E 2 uX12_tellWork hi 17 [some (.ref x0), some (.int x1), some (.int x2)] [] h (.inl (some (.int r))) h' := by
  unfold g_X12_tellWork_b17 at hq
  refine jw_iload_n dX12_tellWork_17 rfl ?_
  rcases jw_if hq with ⟨c1, hq⟩ | ⟨c1, hq⟩
  · refine jw_if_eq_t (tgt := 31) dX12_tellWork_18 (by decide) c1 ?_
    refine jw_forget [true, false, true] (L' := [some (.ref x0), none, some (.int x2)]) rfl ?_
    exact l_X12_tellWork_b31  hq
  · refine jw_if_eq_f (tgt := 31) dX12_tellWork_18 (by decide) c1 ?_
    refine jw_iload_n dX12_tellWork_21 rfl ?_
    rcases jw_if hq with ⟨c2, hq⟩ | ⟨c2, hq⟩
    · refine jw_if_eq_t (tgt := 31) dX12_tellWork_22 (by decide) c2 ?_
      refine jw_forget [true, false, true] (L' := [some (.ref x0), none, some (.int x2)]) rfl ?_
      exact l_X12_tellWork_b31  hq
    · refine jw_if_eq_f (tgt := 31) dX12_tellWork_22 (by decide) c2 ?_
      refine jw_aload_n dX12_tellWork_25 (o := (some x0)) rfl ?_
      refine jw_bipush dX12_tellWork_26 (v := (32 : Int32)) (by decide) ?_
      obtain ⟨a3, ea3, hq⟩ := Option.bind_eq_some_iff.mp hq
      obtain ⟨eoa3, eta3⟩ := jw_rc_spec ea3
      obtain ⟨w5, h4, ew5, hq⟩ := jw_b2_spec hq
      refine jw_callV (As := [.int (32 : Int32)]) (S := []) (a := a3) (v := none) dX12_tellWork_28 mt_X12_makes in_X12_makes se_X12_makes lk_X12_120 (c_X12_makes ew5) eta3 (by decide) rfl rfl (by decide) (Nat.le_of_ble_eq_true rfl) (by cases eoa3; rfl) ?_
      refine jw_forget [true, false, true] (L' := [some (.ref x0), none, some (.int x2)]) rfl ?_
      exact l_X12_tellWork_b31  hq

set_option maxRecDepth 100000 in
set_option maxHeartbeats 4000000 in
theorem l_X12_tellWork {hi : jw_H} {h : jw_H} {x0 : Nat} {x1 : Int32} {x2 : Int32} {r : Int32} {h' : jw_H} (hq : f_X12_tellWork  h x0 x1 x2 = some (r, h')) : jw_E 2 uX12_tellWork hi 0 [some (.ref x0), some (.int x1), some (.int x2)] [] h (.inl (some (.int r))) h' := by
  unfold f_X12_tellWork at hq
  refine jw_aload_n dX12_tellWork_0 (o := (some x0)) rfl ?_
  refine jw_iconst dX12_tellWork_1 (v := (0 : Int32)) (by decide) ?_
  obtain ⟨h1, eh1, hq⟩ := Option.bind_eq_some_iff.mp hq
  refine jw_putI (o := (some x0)) dX12_tellWork_2 eh1 fl_X12_117 rfl rfl ?_
  refine jw_iload_n dX12_tellWork_5 rfl ?_
  rcases jw_if hq with ⟨c2, hq⟩ | ⟨c2, hq⟩
  · refine jw_if_eq_t (tgt := 17) dX12_tellWork_6 (by decide) c2 ?_
    exact l_X12_tellWork_b17  hq
  · refine jw_if_eq_f (tgt := 17) dX12_tellWork_6 (by decide) c2 ?_
    refine jw_aload_n dX12_tellWork_9 (o := (some x0)) rfl ?_
    refine jw_aload_n dX12_tellWork_10 (o := (some x0)) rfl ?_
    obtain ⟨v3, ev3, hq⟩ := Option.bind_eq_some_iff.mp hq
    refine jw_getI (o := (some x0)) dX12_tellWork_11 ev3 fl_X12_551 rfl ?_
    obtain ⟨a4, ea4, hq⟩ := Option.bind_eq_some_iff.mp hq
    obtain ⟨eoa4, eta4⟩ := jw_rc_spec ea4
    obtain ⟨w6, h5, ew6, hq⟩ := jw_b2_spec hq
    refine jw_callV (As := [.int v3]) (S := []) (a := a4) (v := none) dX12_tellWork_14 mt_X12_makesNumber in_X12_makesNumber se_X12_makesNumber lk_X12_360 (c_X12_makesNumber ew6) eta4 (by decide) rfl rfl (by decide) (Nat.le_of_ble_eq_true rfl) (by cases eoa4; rfl) ?_
    exact l_X12_tellWork_b17  hq

theorem c_X12_tellWork {h : jw_H} {x0 : Nat} {x1 : Int32} {x2 : Int32} {r : Int32} {h' : jw_H} (hq : f_X12_tellWork h x0 x1 x2 = some (r, h')) : jw_Con (Cond.code yX12_tellWork cX12_tellWork 3 (some .int)) yX12_tellWork 2 [.ref x0, .int x1, .int x2] h (.inl (some (.int r))) h' :=
  jw_con false (plainFor_of_name (by decide +kernel)) (fun z => nomatch z) (by simp [jw_ent, jw_sl0_nil, jw_sl0_int, jw_sl0_long, jw_sl0_ref, jw_sl0_rf, jw_sl0_scr, List.replicate]) (by simp [jw_sl0_nil, jw_sl0_int, jw_sl0_long, jw_sl0_ref, jw_sl0_rf, jw_sl0_scr]) (l_X12_tellWork hq)


/-! X12_holdWork -/
noncomputable def f_X12_holdWork (h : jw_H) (x0 : Nat) (x1 : Int32) : Option (Int32 × jw_H) :=
 if x1 = (40 : Int32) then (some ((4 : Int32), h))
 else ((jw_rc h 12 (some x0)).bind fun a2 =>
 jw_b2 (f_X12_copyRow h a2 (429 : Int32) ((82 : Int32) + x1)) fun w4 h3 =>
 (jw_pI h3 12 (some x0) 14 (x1 + (1 : Int32))).bind fun h5 =>
 some ((0 : Int32), h5))

set_option maxRecDepth 100000 in
set_option maxHeartbeats 4000000 in
theorem l_X12_holdWork {hi : jw_H} {h : jw_H} {x0 : Nat} {x1 : Int32} {r : Int32} {h' : jw_H} (hq : f_X12_holdWork  h x0 x1 = some (r, h')) : jw_E 1 uX12_holdWork hi 0 [some (.ref x0), some (.int x1)] [] h (.inl (some (.int r))) h' := by
  unfold f_X12_holdWork at hq
  refine jw_iload_n dX12_holdWork_0 rfl ?_
  refine jw_bipush dX12_holdWork_1 (v := (40 : Int32)) (by decide) ?_
  rcases jw_if hq with ⟨c1, hq⟩ | ⟨c1, hq⟩
  · refine jw_icmp_ne_f (tgt := 8) dX12_holdWork_3 (by decide) c1 ?_
    refine jw_iconst dX12_holdWork_6 (v := (4 : Int32)) (by decide) ?_
    cases hq
    exact jw_iret (ty := .int) dX12_holdWork_7 rfl rfl
  · refine jw_icmp_ne_t (tgt := 8) dX12_holdWork_3 (by decide) c1 ?_
    refine jw_aload_n dX12_holdWork_8 (o := (some x0)) rfl ?_
    refine jw_sipush dX12_holdWork_9 (v := (429 : Int32)) (by decide) ?_
    refine jw_bipush dX12_holdWork_12 (v := (82 : Int32)) (by decide) ?_
    refine jw_iload_n dX12_holdWork_14 rfl ?_
    refine jw_iadd dX12_holdWork_15 ?_
    obtain ⟨a2, ea2, hq⟩ := Option.bind_eq_some_iff.mp hq
    obtain ⟨eoa2, eta2⟩ := jw_rc_spec ea2
    obtain ⟨w4, h3, ew4, hq⟩ := jw_b2_spec hq
    refine jw_callV (As := [.int (429 : Int32), .int ((82 : Int32) + x1)]) (S := []) (a := a2) (v := none) dX12_holdWork_16 mt_X12_copyRow in_X12_copyRow se_X12_copyRow lk_X12_127 (c_X12_copyRow ew4) eta2 (by decide) rfl rfl (by decide) (Nat.le_of_ble_eq_true rfl) (by cases eoa2; rfl) ?_
    refine jw_aload_n dX12_holdWork_19 (o := (some x0)) rfl ?_
    refine jw_iload_n dX12_holdWork_20 rfl ?_
    refine jw_iconst dX12_holdWork_21 (v := (1 : Int32)) (by decide) ?_
    refine jw_iadd dX12_holdWork_22 ?_
    obtain ⟨h5, eh5, hq⟩ := Option.bind_eq_some_iff.mp hq
    refine jw_putI (o := (some x0)) dX12_holdWork_23 eh5 fl_X12_366 rfl rfl ?_
    refine jw_iconst dX12_holdWork_26 (v := (0 : Int32)) (by decide) ?_
    cases hq
    exact jw_iret (ty := .int) dX12_holdWork_27 rfl rfl

theorem c_X12_holdWork {h : jw_H} {x0 : Nat} {x1 : Int32} {r : Int32} {h' : jw_H} (hq : f_X12_holdWork h x0 x1 = some (r, h')) : jw_Con (Cond.code yX12_holdWork cX12_holdWork 2 (some .int)) yX12_holdWork 1 [.ref x0, .int x1] h (.inl (some (.int r))) h' :=
  jw_con false (plainFor_of_name (by decide +kernel)) (fun z => nomatch z) (by simp [jw_ent, jw_sl0_nil, jw_sl0_int, jw_sl0_long, jw_sl0_ref, jw_sl0_rf, jw_sl0_scr, List.replicate]) (by simp [jw_sl0_nil, jw_sl0_int, jw_sl0_long, jw_sl0_ref, jw_sl0_rf, jw_sl0_scr]) (l_X12_holdWork hq)


/-! X12_exchangeWork -/
noncomputable def f_X12_exchangeWork (h : jw_H) (x0 : Nat) : Option (Int32 × jw_H) :=
 (jw_gI h 12 (some x0) 14).bind fun v1 =>
 if v1 = (1 : Int32) then ((jw_rc h 12 (some x0)).bind fun a3 =>
 jw_b2 (f_X12_copyRow h a3 (429 : Int32) (431 : Int32)) fun w5 h4 =>
 (jw_rc h4 12 (some x0)).bind fun a6 =>
 jw_b2 (f_X12_copyRow h4 a6 (82 : Int32) (429 : Int32)) fun w8 h7 =>
 (jw_rc h7 12 (some x0)).bind fun a9 =>
 jw_b2 (f_X12_copyRow h7 a9 (431 : Int32) (82 : Int32)) fun w11 h10 =>
 some ((0 : Int32), h10))
 else (some ((5 : Int32), h))

set_option maxRecDepth 100000 in
set_option maxHeartbeats 4000000 in
theorem l_X12_exchangeWork {hi : jw_H} {h : jw_H} {x0 : Nat} {r : Int32} {h' : jw_H} (hq : f_X12_exchangeWork  h x0 = some (r, h')) : jw_E 1 uX12_exchangeWork hi 0 [some (.ref x0)] [] h (.inl (some (.int r))) h' := by
  unfold f_X12_exchangeWork at hq
  refine jw_aload_n dX12_exchangeWork_0 (o := (some x0)) rfl ?_
  obtain ⟨v1, ev1, hq⟩ := Option.bind_eq_some_iff.mp hq
  refine jw_getI (o := (some x0)) dX12_exchangeWork_1 ev1 fl_X12_366 rfl ?_
  refine jw_iconst dX12_exchangeWork_4 (v := (1 : Int32)) (by decide) ?_
  rcases jw_if hq with ⟨c2, hq⟩ | ⟨c2, hq⟩
  · refine jw_icmp_eq_t (tgt := 10) dX12_exchangeWork_5 (by decide) c2 ?_
    refine jw_aload_n dX12_exchangeWork_10 (o := (some x0)) rfl ?_
    refine jw_sipush dX12_exchangeWork_11 (v := (429 : Int32)) (by decide) ?_
    refine jw_sipush dX12_exchangeWork_14 (v := (431 : Int32)) (by decide) ?_
    obtain ⟨a3, ea3, hq⟩ := Option.bind_eq_some_iff.mp hq
    obtain ⟨eoa3, eta3⟩ := jw_rc_spec ea3
    obtain ⟨w5, h4, ew5, hq⟩ := jw_b2_spec hq
    refine jw_callV (As := [.int (429 : Int32), .int (431 : Int32)]) (S := []) (a := a3) (v := none) dX12_exchangeWork_17 mt_X12_copyRow in_X12_copyRow se_X12_copyRow lk_X12_127 (c_X12_copyRow ew5) eta3 (by decide) rfl rfl (by decide) (Nat.le_of_ble_eq_true rfl) (by cases eoa3; rfl) ?_
    refine jw_aload_n dX12_exchangeWork_20 (o := (some x0)) rfl ?_
    refine jw_bipush dX12_exchangeWork_21 (v := (82 : Int32)) (by decide) ?_
    refine jw_sipush dX12_exchangeWork_23 (v := (429 : Int32)) (by decide) ?_
    obtain ⟨a6, ea6, hq⟩ := Option.bind_eq_some_iff.mp hq
    obtain ⟨eoa6, eta6⟩ := jw_rc_spec ea6
    obtain ⟨w8, h7, ew8, hq⟩ := jw_b2_spec hq
    refine jw_callV (As := [.int (82 : Int32), .int (429 : Int32)]) (S := []) (a := a6) (v := none) dX12_exchangeWork_26 mt_X12_copyRow in_X12_copyRow se_X12_copyRow lk_X12_127 (c_X12_copyRow ew8) eta6 (by decide) rfl rfl (by decide) (Nat.le_of_ble_eq_true rfl) (by cases eoa6; rfl) ?_
    refine jw_aload_n dX12_exchangeWork_29 (o := (some x0)) rfl ?_
    refine jw_sipush dX12_exchangeWork_30 (v := (431 : Int32)) (by decide) ?_
    refine jw_bipush dX12_exchangeWork_33 (v := (82 : Int32)) (by decide) ?_
    obtain ⟨a9, ea9, hq⟩ := Option.bind_eq_some_iff.mp hq
    obtain ⟨eoa9, eta9⟩ := jw_rc_spec ea9
    obtain ⟨w11, h10, ew11, hq⟩ := jw_b2_spec hq
    refine jw_callV (As := [.int (431 : Int32), .int (82 : Int32)]) (S := []) (a := a9) (v := none) dX12_exchangeWork_35 mt_X12_copyRow in_X12_copyRow se_X12_copyRow lk_X12_127 (c_X12_copyRow ew11) eta9 (by decide) rfl rfl (by decide) (Nat.le_of_ble_eq_true rfl) (by cases eoa9; rfl) ?_
    refine jw_iconst dX12_exchangeWork_38 (v := (0 : Int32)) (by decide) ?_
    cases hq
    exact jw_iret (ty := .int) dX12_exchangeWork_39 rfl rfl
  · refine jw_icmp_eq_f (tgt := 10) dX12_exchangeWork_5 (by decide) c2 ?_
    refine jw_iconst dX12_exchangeWork_8 (v := (5 : Int32)) (by decide) ?_
    cases hq
    exact jw_iret (ty := .int) dX12_exchangeWork_9 rfl rfl

theorem c_X12_exchangeWork {h : jw_H} {x0 : Nat} {r : Int32} {h' : jw_H} (hq : f_X12_exchangeWork h x0 = some (r, h')) : jw_Con (Cond.code yX12_exchangeWork cX12_exchangeWork 1 (some .int)) yX12_exchangeWork 1 [.ref x0] h (.inl (some (.int r))) h' :=
  jw_con false (plainFor_of_name (by decide +kernel)) (fun z => nomatch z) (by simp [jw_ent, jw_sl0_nil, jw_sl0_int, jw_sl0_long, jw_sl0_ref, jw_sl0_rf, jw_sl0_scr, List.replicate]) (by simp [jw_sl0_nil, jw_sl0_int, jw_sl0_long, jw_sl0_ref, jw_sl0_rf, jw_sl0_scr]) (l_X12_exchangeWork hq)


/-! X12_dueRows -/
noncomputable def g_X12_dueRows_b2 (k2 : jw_H → Nat → Int32 → Int32 → Int32 → Option (Int32 × jw_H)) (h : jw_H) (x0 : Nat) (x1 : Int32) (x2 : Int32) (x3 : Int32) : Option (Int32 × jw_H) :=
 if x2 ≤ x3 then (some ((0 : Int32), h))
 else ((jw_rc h 12 (some x0)).bind fun a2 =>
 jw_b2 (f_X12_due h a2 (x1 + x3)) fun w4 h3 =>
 k2 h3 x0 x1 x2 (x3 + (1 : Int32)))

noncomputable def f_X12_dueRows_b2 (n : Nat) : jw_H → Nat → Int32 → Int32 → Int32 → Option (Int32 × jw_H) :=
 Nat.rec (fun _ _ _ _ _ => none) (fun _ k2 => g_X12_dueRows_b2 k2) n

noncomputable def f_X12_dueRows (h : jw_H) (x0 : Nat) (x1 : Int32) (x2 : Int32) : Option (Int32 × jw_H) :=
 f_X12_dueRows_b2  jw_FU h x0 x1 x2 (0 : Int32)

set_option maxRecDepth 100000 in
set_option maxHeartbeats 4000000 in
theorem l_X12_dueRows_b2g {hi : jw_H} {k2 : jw_H → Nat → Int32 → Int32 → Int32 → Option (Int32 × jw_H)} (hk2 : ∀ (h : jw_H) (x0 : Nat) (x1 : Int32) (x2 : Int32) (x3 : Int32) (r : Int32) (h' : jw_H), k2 h x0 x1 x2 x3 = some (r, h') → jw_E 2 uX12_dueRows hi 2 [some (.ref x0), some (.int x1), some (.int x2), some (.int x3)] [] h (.inl (some (.int r))) h') {h : jw_H} {x0 : Nat} {x1 : Int32} {x2 : Int32} {x3 : Int32} {r : Int32} {h' : jw_H} (hq : g_X12_dueRows_b2 k2 h x0 x1 x2 x3 = some (r, h')) : jw_E 2 uX12_dueRows hi 2 [some (.ref x0), some (.int x1), some (.int x2), some (.int x3)] [] h (.inl (some (.int r))) h' := by
  unfold g_X12_dueRows_b2 at hq
  refine jw_iload_n dX12_dueRows_2 rfl ?_
  refine jw_iload_n dX12_dueRows_3 rfl ?_
  rcases jw_if hq with ⟨c1, hq⟩ | ⟨c1, hq⟩
  · refine jw_icmp_ge_t (tgt := 20) dX12_dueRows_4 (by decide) c1 ?_
    refine jw_iconst dX12_dueRows_20 (v := (0 : Int32)) (by decide) ?_
    cases hq
    exact jw_iret (ty := .int) dX12_dueRows_21 rfl rfl
  · refine jw_icmp_ge_f (tgt := 20) dX12_dueRows_4 (by decide) c1 ?_
    refine jw_aload_n dX12_dueRows_7 (o := (some x0)) rfl ?_
    refine jw_iload_n dX12_dueRows_8 rfl ?_
    refine jw_iload_n dX12_dueRows_9 rfl ?_
    refine jw_iadd dX12_dueRows_10 ?_
    obtain ⟨a2, ea2, hq⟩ := Option.bind_eq_some_iff.mp hq
    obtain ⟨eoa2, eta2⟩ := jw_rc_spec ea2
    obtain ⟨w4, h3, ew4, hq⟩ := jw_b2_spec hq
    refine jw_callV (As := [.int (x1 + x3)]) (S := []) (a := a2) (v := none) dX12_dueRows_11 mt_X12_due in_X12_due se_X12_due lk_X12_584 (c_X12_due ew4) eta2 (by decide) rfl rfl (by decide) (Nat.le_of_ble_eq_true rfl) (by cases eoa2; rfl) ?_
    refine jw_iinc (L' := [some (.ref x0), some (.int x1), some (.int x2), some (.int (x3 + (1 : Int32)))]) dX12_dueRows_14 rfl (v := (1 : Int32)) (by decide) (Nat.le_of_ble_eq_true rfl) rfl ?_
    refine jw_goto (tgt := 2) dX12_dueRows_17 (by decide) ?_
    exact hk2 _ _ _ _ _ _ _ hq

theorem l_X12_dueRows_b2 {hi : jw_H} : ∀ (n : Nat) (h : jw_H) (x0 : Nat) (x1 : Int32) (x2 : Int32) (x3 : Int32) (r : Int32) (h' : jw_H), f_X12_dueRows_b2  n h x0 x1 x2 x3 = some (r, h') → jw_E 2 uX12_dueRows hi 2 [some (.ref x0), some (.int x1), some (.int x2), some (.int x3)] [] h (.inl (some (.int r))) h' := by
  intro n
  induction n with
  | zero => intro h x0 x1 x2 x3 r h' hq; exact nomatch hq
  | succ n ih => intro h x0 x1 x2 x3 r h' hq; exact l_X12_dueRows_b2g ih hq

set_option maxRecDepth 100000 in
set_option maxHeartbeats 4000000 in
theorem l_X12_dueRows {hi : jw_H} {h : jw_H} {x0 : Nat} {x1 : Int32} {x2 : Int32} {r : Int32} {h' : jw_H} (hq : f_X12_dueRows  h x0 x1 x2 = some (r, h')) : jw_E 2 uX12_dueRows hi 0 [some (.ref x0), some (.int x1), some (.int x2), none] [] h (.inl (some (.int r))) h' := by
  unfold f_X12_dueRows at hq
  refine jw_iconst dX12_dueRows_0 (v := (0 : Int32)) (by decide) ?_
  refine jw_istore_n (L' := [some (.ref x0), some (.int x1), some (.int x2), some (.int (0 : Int32))]) dX12_dueRows_1 (Nat.le_of_ble_eq_true rfl) rfl ?_
  exact l_X12_dueRows_b2  jw_FU _ _ _ _ _ _ _ hq

theorem c_X12_dueRows {h : jw_H} {x0 : Nat} {x1 : Int32} {x2 : Int32} {r : Int32} {h' : jw_H} (hq : f_X12_dueRows h x0 x1 x2 = some (r, h')) : jw_Con (Cond.code yX12_dueRows cX12_dueRows 4 (some .int)) yX12_dueRows 2 [.ref x0, .int x1, .int x2] h (.inl (some (.int r))) h' :=
  jw_con false (plainFor_of_name (by decide +kernel)) (fun z => nomatch z) (by simp [jw_ent, jw_sl0_nil, jw_sl0_int, jw_sl0_long, jw_sl0_ref, jw_sl0_rf, jw_sl0_scr, List.replicate]) (by simp [jw_sl0_nil, jw_sl0_int, jw_sl0_long, jw_sl0_ref, jw_sl0_rf, jw_sl0_scr]) (l_X12_dueRows hq)


/-! X12_writeWork -/
noncomputable def f_X12_writeWork (h : jw_H) (x0 : Nat) (x1 : Int32) : Option (Int32 × jw_H) :=
 (jw_gR h 12 (some x0) 11).bind fun v1 =>
 (jw_ai h 20 v1 x1).bind fun v2 =>
 if v2 = (40 : Int32) then (some ((4 : Int32), h))
 else ((jw_gR h 12 (some x0) 11).bind fun v4 =>
 (jw_ai h 20 v4 x1).bind fun v5 =>
 jw_b2 (f_X12_fileRow h x1 v5) fun w7 h6 =>
 (jw_rc h6 12 (some x0)).bind fun a8 =>
 jw_b2 (f_X12_copyRow h6 a8 (429 : Int32) w7) fun w10 h9 =>
 (jw_gR h9 12 (some x0) 11).bind fun v11 =>
 (jw_ai h9 20 v11 x1).bind fun v12 =>
 (jw_si h9 20 v11 x1 (v12 + (1 : Int32))).bind fun h13 =>
 some ((0 : Int32), h13))

set_option maxRecDepth 100000 in
set_option maxHeartbeats 4000000 in
theorem l_X12_writeWork {hi : jw_H} {h : jw_H} {x0 : Nat} {x1 : Int32} {r : Int32} {h' : jw_H} (hq : f_X12_writeWork  h x0 x1 = some (r, h')) : jw_E 1 uX12_writeWork hi 0 [some (.ref x0), some (.int x1)] [] h (.inl (some (.int r))) h' := by
  unfold f_X12_writeWork at hq
  refine jw_aload_n dX12_writeWork_0 (o := (some x0)) rfl ?_
  obtain ⟨v1, ev1, hq⟩ := Option.bind_eq_some_iff.mp hq
  refine jw_getR (o := (some x0)) dX12_writeWork_1 ev1 fl_X12_38 rfl ?_
  refine jw_iload_n dX12_writeWork_4 rfl ?_
  obtain ⟨v2, ev2, hq⟩ := Option.bind_eq_some_iff.mp hq
  refine jw_iald (o := v1) dX12_writeWork_5 ev2 ?_
  refine jw_bipush dX12_writeWork_6 (v := (40 : Int32)) (by decide) ?_
  rcases jw_if hq with ⟨c3, hq⟩ | ⟨c3, hq⟩
  · refine jw_icmp_ne_f (tgt := 13) dX12_writeWork_8 (by decide) c3 ?_
    refine jw_iconst dX12_writeWork_11 (v := (4 : Int32)) (by decide) ?_
    cases hq
    exact jw_iret (ty := .int) dX12_writeWork_12 rfl rfl
  · refine jw_icmp_ne_t (tgt := 13) dX12_writeWork_8 (by decide) c3 ?_
    refine jw_aload_n dX12_writeWork_13 (o := (some x0)) rfl ?_
    refine jw_sipush dX12_writeWork_14 (v := (429 : Int32)) (by decide) ?_
    refine jw_iload_n dX12_writeWork_17 rfl ?_
    refine jw_aload_n dX12_writeWork_18 (o := (some x0)) rfl ?_
    obtain ⟨v4, ev4, hq⟩ := Option.bind_eq_some_iff.mp hq
    refine jw_getR (o := (some x0)) dX12_writeWork_19 ev4 fl_X12_38 rfl ?_
    refine jw_iload_n dX12_writeWork_22 rfl ?_
    obtain ⟨v5, ev5, hq⟩ := Option.bind_eq_some_iff.mp hq
    refine jw_iald (o := v4) dX12_writeWork_23 ev5 ?_
    obtain ⟨w7, h6, ew7, hq⟩ := jw_b2_spec hq
    refine jw_callS (As := [.int x1, .int v5]) (S := [.int (429 : Int32), .ref x0]) (v := some (.int w7)) dX12_writeWork_24 mt_X12_fileRow st_X12_fileRow lk_X12_394 (c_X12_fileRow ew7) rfl (by decide) (Nat.le_of_ble_eq_true rfl) rfl ?_
    obtain ⟨a8, ea8, hq⟩ := Option.bind_eq_some_iff.mp hq
    obtain ⟨eoa8, eta8⟩ := jw_rc_spec ea8
    obtain ⟨w10, h9, ew10, hq⟩ := jw_b2_spec hq
    refine jw_callV (As := [.int (429 : Int32), .int w7]) (S := []) (a := a8) (v := none) dX12_writeWork_27 mt_X12_copyRow in_X12_copyRow se_X12_copyRow lk_X12_127 (c_X12_copyRow ew10) eta8 (by decide) rfl rfl (by decide) (Nat.le_of_ble_eq_true rfl) (by cases eoa8; rfl) ?_
    refine jw_aload_n dX12_writeWork_30 (o := (some x0)) rfl ?_
    obtain ⟨v11, ev11, hq⟩ := Option.bind_eq_some_iff.mp hq
    refine jw_getR (o := (some x0)) dX12_writeWork_31 ev11 fl_X12_38 rfl ?_
    refine jw_iload_n dX12_writeWork_34 rfl ?_
    refine jw_dup2 dX12_writeWork_35 rfl jw_cat_rf ?_
    obtain ⟨v12, ev12, hq⟩ := Option.bind_eq_some_iff.mp hq
    refine jw_iald (o := v11) dX12_writeWork_36 ev12 ?_
    refine jw_iconst dX12_writeWork_37 (v := (1 : Int32)) (by decide) ?_
    refine jw_iadd dX12_writeWork_38 ?_
    obtain ⟨h13, eh13, hq⟩ := Option.bind_eq_some_iff.mp hq
    refine jw_iast (o := v11) dX12_writeWork_39 eh13 ?_
    refine jw_iconst dX12_writeWork_40 (v := (0 : Int32)) (by decide) ?_
    cases hq
    exact jw_iret (ty := .int) dX12_writeWork_41 rfl rfl

theorem c_X12_writeWork {h : jw_H} {x0 : Nat} {x1 : Int32} {r : Int32} {h' : jw_H} (hq : f_X12_writeWork h x0 x1 = some (r, h')) : jw_Con (Cond.code yX12_writeWork cX12_writeWork 2 (some .int)) yX12_writeWork 1 [.ref x0, .int x1] h (.inl (some (.int r))) h' :=
  jw_con false (plainFor_of_name (by decide +kernel)) (fun z => nomatch z) (by simp [jw_ent, jw_sl0_nil, jw_sl0_int, jw_sl0_long, jw_sl0_ref, jw_sl0_rf, jw_sl0_scr, List.replicate]) (by simp [jw_sl0_nil, jw_sl0_int, jw_sl0_long, jw_sl0_ref, jw_sl0_rf, jw_sl0_scr]) (l_X12_writeWork hq)


/-! X12_otherWorkAct -/
noncomputable def g_X12_otherWorkAct_b35 (h : jw_H) (t0 : Int32) : Option (Int32 × jw_H) :=
 some (t0, h)

noncomputable def g_X12_otherWorkAct_b80 (h : jw_H) (t0 : Int32) : Option (Int32 × jw_H) :=
 some (t0, h)

noncomputable def f_X12_otherWorkAct (h : jw_H) (x0 : Nat) (x1 : Int32) : Option (Int32 × jw_H) :=
 (jw_gR h 12 (some x0) 21).bind fun v1 =>
 (jw_ai h 20 v1 x1).bind fun v2 =>
 if v2 = (62 : Int32) then ((jw_rc h 12 (some x0)).bind fun a44 =>
 jw_b2 (f_X12_numberAt h a44 (x1 + (1 : Int32))) fun w46 h45 =>
 (jw_rc h45 12 (some x0)).bind fun a47 =>
 jw_b2 (f_X12_moveRight h45 a47 (429 : Int32) w46) fun w49 h48 =>
 if w49 = 0 then (g_X12_otherWorkAct_b35  h48 (4 : Int32))
 else (g_X12_otherWorkAct_b35  h48 (0 : Int32)))
 else (if v2 = (60 : Int32) then ((jw_rc h 12 (some x0)).bind fun a38 =>
 jw_b2 (f_X12_numberAt h a38 (x1 + (1 : Int32))) fun w40 h39 =>
 (jw_rc h39 12 (some x0)).bind fun a41 =>
 jw_b2 (f_X12_moveLeft h39 a41 (429 : Int32) w40) fun w43 h42 =>
 some ((0 : Int32), h42))
 else (if v2 = (115 : Int32) then ((jw_rc h 12 (some x0)).bind fun a34 =>
 jw_b2 (f_X12_replaces h a34 (429 : Int32) x1) fun w36 h35 =>
 if w36 = 0 then (g_X12_otherWorkAct_b80  h35 (4 : Int32))
 else (g_X12_otherWorkAct_b80  h35 (0 : Int32)))
 else (if v2 = (122 : Int32) then ((jw_rc h 12 (some x0)).bind fun a31 =>
 jw_b2 (f_X12_turns h a31 (429 : Int32) x1) fun w33 h32 =>
 some ((0 : Int32), h32))
 else (if v2 = (114 : Int32) then ((jw_gR h 12 (some x0) 21).bind fun v20 =>
 (jw_ai h 20 v20 (x1 + (1 : Int32))).bind fun v21 =>
 jw_b2 (f_X12_fileRow h (v21 - (48 : Int32)) (0 : Int32)) fun w23 h22 =>
 (jw_gR h22 12 (some x0) 11).bind fun v24 =>
 (jw_gR h22 12 (some x0) 21).bind fun v25 =>
 (jw_ai h22 20 v25 (x1 + (1 : Int32))).bind fun v26 =>
 (jw_ai h22 20 v24 (v26 - (48 : Int32))).bind fun v27 =>
 (jw_rc h22 12 (some x0)).bind fun a28 =>
 jw_b2 (f_X12_dueRows h22 a28 w23 v27) fun w30 h29 =>
 some (w30, h29))
 else (if v2 = (119 : Int32) then ((jw_gR h 12 (some x0) 21).bind fun v15 =>
 (jw_ai h 20 v15 (x1 + (1 : Int32))).bind fun v16 =>
 (jw_rc h 12 (some x0)).bind fun a17 =>
 jw_b2 (f_X12_writeWork h a17 (v16 - (48 : Int32))) fun w19 h18 =>
 some (w19, h18))
 else (if v2 = (107 : Int32) then ((jw_gR h 12 (some x0) 10).bind fun v10 =>
 (jw_gR h 12 (some x0) 21).bind fun v11 =>
 (jw_ai h 20 v11 (x1 + (1 : Int32))).bind fun v12 =>
 (jw_gI h 12 (some x0) 67).bind fun v13 =>
 (jw_si h 20 v10 (v12 - (97 : Int32)) v13).bind fun h14 =>
 some ((0 : Int32), h14))
 else (some ((0 : Int32), h))))))))

set_option maxRecDepth 100000 in
set_option maxHeartbeats 4000000 in
theorem l_X12_otherWorkAct_b35 {hi : jw_H} {h : jw_H} {t0 : Int32} {r : Int32} {h' : jw_H} (hq : g_X12_otherWorkAct_b35  h t0 = some (r, h')) : jw_E 7 uX12_otherWorkAct hi 35 [none, none, none] [.int t0] h (.inl (some (.int r))) h' := by
  unfold g_X12_otherWorkAct_b35 at hq
  cases hq
  exact jw_iret (ty := .int) dX12_otherWorkAct_35 rfl rfl

set_option maxRecDepth 100000 in
set_option maxHeartbeats 4000000 in
theorem l_X12_otherWorkAct_b80 {hi : jw_H} {h : jw_H} {t0 : Int32} {r : Int32} {h' : jw_H} (hq : g_X12_otherWorkAct_b80  h t0 = some (r, h')) : jw_E 7 uX12_otherWorkAct hi 80 [none, none, none] [.int t0] h (.inl (some (.int r))) h' := by
  unfold g_X12_otherWorkAct_b80 at hq
  cases hq
  exact jw_iret (ty := .int) dX12_otherWorkAct_80 rfl rfl

set_option maxRecDepth 100000 in
set_option maxHeartbeats 4000000 in
theorem l_X12_otherWorkAct {hi : jw_H} {h : jw_H} {x0 : Nat} {x1 : Int32} {r : Int32} {h' : jw_H} (hq : f_X12_otherWorkAct  h x0 x1 = some (r, h')) : jw_E 7 uX12_otherWorkAct hi 0 [some (.ref x0), some (.int x1), none] [] h (.inl (some (.int r))) h' := by
  unfold f_X12_otherWorkAct at hq
  refine jw_aload_n dX12_otherWorkAct_0 (o := (some x0)) rfl ?_
  obtain ⟨v1, ev1, hq⟩ := Option.bind_eq_some_iff.mp hq
  refine jw_getR (o := (some x0)) dX12_otherWorkAct_1 ev1 fl_X12_44 rfl ?_
  refine jw_iload_n dX12_otherWorkAct_4 rfl ?_
  obtain ⟨v2, ev2, hq⟩ := Option.bind_eq_some_iff.mp hq
  refine jw_iald (o := v1) dX12_otherWorkAct_5 ev2 ?_
  refine jw_istore_n (L' := [some (.ref x0), some (.int x1), some (.int v2)]) dX12_otherWorkAct_6 (Nat.le_of_ble_eq_true rfl) rfl ?_
  refine jw_iload_n dX12_otherWorkAct_7 rfl ?_
  refine jw_bipush dX12_otherWorkAct_8 (v := (62 : Int32)) (by decide) ?_
  rcases jw_if hq with ⟨c3, hq⟩ | ⟨c3, hq⟩
  · refine jw_icmp_ne_f (tgt := 36) dX12_otherWorkAct_10 (by decide) c3 ?_
    refine jw_aload_n dX12_otherWorkAct_13 (o := (some x0)) rfl ?_
    refine jw_sipush dX12_otherWorkAct_14 (v := (429 : Int32)) (by decide) ?_
    refine jw_aload_n dX12_otherWorkAct_17 (o := (some x0)) rfl ?_
    refine jw_iload_n dX12_otherWorkAct_18 rfl ?_
    refine jw_iconst dX12_otherWorkAct_19 (v := (1 : Int32)) (by decide) ?_
    refine jw_iadd dX12_otherWorkAct_20 ?_
    obtain ⟨a44, ea44, hq⟩ := Option.bind_eq_some_iff.mp hq
    obtain ⟨eoa44, eta44⟩ := jw_rc_spec ea44
    obtain ⟨w46, h45, ew46, hq⟩ := jw_b2_spec hq
    refine jw_callV (As := [.int (x1 + (1 : Int32))]) (S := [.int (429 : Int32), .ref x0]) (a := a44) (v := some (.int w46)) dX12_otherWorkAct_21 mt_X12_numberAt in_X12_numberAt se_X12_numberAt lk_X12_301 (c_X12_numberAt ew46) eta44 (by decide) rfl rfl (by decide) (Nat.le_of_ble_eq_true rfl) (by cases eoa44; rfl) ?_
    obtain ⟨a47, ea47, hq⟩ := Option.bind_eq_some_iff.mp hq
    obtain ⟨eoa47, eta47⟩ := jw_rc_spec ea47
    obtain ⟨w49, h48, ew49, hq⟩ := jw_b2_spec hq
    refine jw_callV (As := [.int (429 : Int32), .int w46]) (S := []) (a := a47) (v := some (.int w49)) dX12_otherWorkAct_24 mt_X12_moveRight in_X12_moveRight se_X12_moveRight lk_X12_372 (c_X12_moveRight ew49) eta47 (by decide) rfl rfl (by decide) (Nat.le_of_ble_eq_true rfl) (by cases eoa47; rfl) ?_
    rcases jw_if hq with ⟨c50, hq⟩ | ⟨c50, hq⟩
    · refine jw_if_eq_t (tgt := 34) dX12_otherWorkAct_27 (by decide) c50 ?_
      refine jw_iconst dX12_otherWorkAct_34 (v := (4 : Int32)) (by decide) ?_
      refine jw_forget [false, false, false] (L' := [none, none, none]) rfl ?_
      exact l_X12_otherWorkAct_b35  hq
    · refine jw_if_eq_f (tgt := 34) dX12_otherWorkAct_27 (by decide) c50 ?_
      refine jw_iconst dX12_otherWorkAct_30 (v := (0 : Int32)) (by decide) ?_
      refine jw_goto (tgt := 35) dX12_otherWorkAct_31 (by decide) ?_
      refine jw_forget [false, false, false] (L' := [none, none, none]) rfl ?_
      exact l_X12_otherWorkAct_b35  hq
  · refine jw_icmp_ne_t (tgt := 36) dX12_otherWorkAct_10 (by decide) c3 ?_
    refine jw_iload_n dX12_otherWorkAct_36 rfl ?_
    refine jw_bipush dX12_otherWorkAct_37 (v := (60 : Int32)) (by decide) ?_
    rcases jw_if hq with ⟨c4, hq⟩ | ⟨c4, hq⟩
    · refine jw_icmp_ne_f (tgt := 58) dX12_otherWorkAct_39 (by decide) c4 ?_
      refine jw_aload_n dX12_otherWorkAct_42 (o := (some x0)) rfl ?_
      refine jw_sipush dX12_otherWorkAct_43 (v := (429 : Int32)) (by decide) ?_
      refine jw_aload_n dX12_otherWorkAct_46 (o := (some x0)) rfl ?_
      refine jw_iload_n dX12_otherWorkAct_47 rfl ?_
      refine jw_iconst dX12_otherWorkAct_48 (v := (1 : Int32)) (by decide) ?_
      refine jw_iadd dX12_otherWorkAct_49 ?_
      obtain ⟨a38, ea38, hq⟩ := Option.bind_eq_some_iff.mp hq
      obtain ⟨eoa38, eta38⟩ := jw_rc_spec ea38
      obtain ⟨w40, h39, ew40, hq⟩ := jw_b2_spec hq
      refine jw_callV (As := [.int (x1 + (1 : Int32))]) (S := [.int (429 : Int32), .ref x0]) (a := a38) (v := some (.int w40)) dX12_otherWorkAct_50 mt_X12_numberAt in_X12_numberAt se_X12_numberAt lk_X12_301 (c_X12_numberAt ew40) eta38 (by decide) rfl rfl (by decide) (Nat.le_of_ble_eq_true rfl) (by cases eoa38; rfl) ?_
      obtain ⟨a41, ea41, hq⟩ := Option.bind_eq_some_iff.mp hq
      obtain ⟨eoa41, eta41⟩ := jw_rc_spec ea41
      obtain ⟨w43, h42, ew43, hq⟩ := jw_b2_spec hq
      refine jw_callV (As := [.int (429 : Int32), .int w40]) (S := []) (a := a41) (v := none) dX12_otherWorkAct_53 mt_X12_moveLeft in_X12_moveLeft se_X12_moveLeft lk_X12_369 (c_X12_moveLeft ew43) eta41 (by decide) rfl rfl (by decide) (Nat.le_of_ble_eq_true rfl) (by cases eoa41; rfl) ?_
      refine jw_iconst dX12_otherWorkAct_56 (v := (0 : Int32)) (by decide) ?_
      cases hq
      exact jw_iret (ty := .int) dX12_otherWorkAct_57 rfl rfl
    · refine jw_icmp_ne_t (tgt := 58) dX12_otherWorkAct_39 (by decide) c4 ?_
      refine jw_iload_n dX12_otherWorkAct_58 rfl ?_
      refine jw_bipush dX12_otherWorkAct_59 (v := (115 : Int32)) (by decide) ?_
      rcases jw_if hq with ⟨c5, hq⟩ | ⟨c5, hq⟩
      · refine jw_icmp_ne_f (tgt := 81) dX12_otherWorkAct_61 (by decide) c5 ?_
        refine jw_aload_n dX12_otherWorkAct_64 (o := (some x0)) rfl ?_
        refine jw_sipush dX12_otherWorkAct_65 (v := (429 : Int32)) (by decide) ?_
        refine jw_iload_n dX12_otherWorkAct_68 rfl ?_
        obtain ⟨a34, ea34, hq⟩ := Option.bind_eq_some_iff.mp hq
        obtain ⟨eoa34, eta34⟩ := jw_rc_spec ea34
        obtain ⟨w36, h35, ew36, hq⟩ := jw_b2_spec hq
        refine jw_callV (As := [.int (429 : Int32), .int x1]) (S := []) (a := a34) (v := some (.int w36)) dX12_otherWorkAct_69 mt_X12_replaces in_X12_replaces se_X12_replaces lk_X12_388 (c_X12_replaces ew36) eta34 (by decide) rfl rfl (by decide) (Nat.le_of_ble_eq_true rfl) (by cases eoa34; rfl) ?_
        rcases jw_if hq with ⟨c37, hq⟩ | ⟨c37, hq⟩
        · refine jw_if_eq_t (tgt := 79) dX12_otherWorkAct_72 (by decide) c37 ?_
          refine jw_iconst dX12_otherWorkAct_79 (v := (4 : Int32)) (by decide) ?_
          refine jw_forget [false, false, false] (L' := [none, none, none]) rfl ?_
          exact l_X12_otherWorkAct_b80  hq
        · refine jw_if_eq_f (tgt := 79) dX12_otherWorkAct_72 (by decide) c37 ?_
          refine jw_iconst dX12_otherWorkAct_75 (v := (0 : Int32)) (by decide) ?_
          refine jw_goto (tgt := 80) dX12_otherWorkAct_76 (by decide) ?_
          refine jw_forget [false, false, false] (L' := [none, none, none]) rfl ?_
          exact l_X12_otherWorkAct_b80  hq
      · refine jw_icmp_ne_t (tgt := 81) dX12_otherWorkAct_61 (by decide) c5 ?_
        refine jw_iload_n dX12_otherWorkAct_81 rfl ?_
        refine jw_bipush dX12_otherWorkAct_82 (v := (122 : Int32)) (by decide) ?_
        rcases jw_if hq with ⟨c6, hq⟩ | ⟨c6, hq⟩
        · refine jw_icmp_ne_f (tgt := 97) dX12_otherWorkAct_84 (by decide) c6 ?_
          refine jw_aload_n dX12_otherWorkAct_87 (o := (some x0)) rfl ?_
          refine jw_sipush dX12_otherWorkAct_88 (v := (429 : Int32)) (by decide) ?_
          refine jw_iload_n dX12_otherWorkAct_91 rfl ?_
          obtain ⟨a31, ea31, hq⟩ := Option.bind_eq_some_iff.mp hq
          obtain ⟨eoa31, eta31⟩ := jw_rc_spec ea31
          obtain ⟨w33, h32, ew33, hq⟩ := jw_b2_spec hq
          refine jw_callV (As := [.int (429 : Int32), .int x1]) (S := []) (a := a31) (v := none) dX12_otherWorkAct_92 mt_X12_turns in_X12_turns se_X12_turns lk_X12_391 (c_X12_turns ew33) eta31 (by decide) rfl rfl (by decide) (Nat.le_of_ble_eq_true rfl) (by cases eoa31; rfl) ?_
          refine jw_iconst dX12_otherWorkAct_95 (v := (0 : Int32)) (by decide) ?_
          cases hq
          exact jw_iret (ty := .int) dX12_otherWorkAct_96 rfl rfl
        · refine jw_icmp_ne_t (tgt := 97) dX12_otherWorkAct_84 (by decide) c6 ?_
          refine jw_iload_n dX12_otherWorkAct_97 rfl ?_
          refine jw_bipush dX12_otherWorkAct_98 (v := (114 : Int32)) (by decide) ?_
          rcases jw_if hq with ⟨c7, hq⟩ | ⟨c7, hq⟩
          · refine jw_icmp_ne_f (tgt := 139) dX12_otherWorkAct_100 (by decide) c7 ?_
            refine jw_aload_n dX12_otherWorkAct_103 (o := (some x0)) rfl ?_
            refine jw_aload_n dX12_otherWorkAct_104 (o := (some x0)) rfl ?_
            obtain ⟨v20, ev20, hq⟩ := Option.bind_eq_some_iff.mp hq
            refine jw_getR (o := (some x0)) dX12_otherWorkAct_105 ev20 fl_X12_44 rfl ?_
            refine jw_iload_n dX12_otherWorkAct_108 rfl ?_
            refine jw_iconst dX12_otherWorkAct_109 (v := (1 : Int32)) (by decide) ?_
            refine jw_iadd dX12_otherWorkAct_110 ?_
            obtain ⟨v21, ev21, hq⟩ := Option.bind_eq_some_iff.mp hq
            refine jw_iald (o := v20) dX12_otherWorkAct_111 ev21 ?_
            refine jw_bipush dX12_otherWorkAct_112 (v := (48 : Int32)) (by decide) ?_
            refine jw_isub dX12_otherWorkAct_114 ?_
            refine jw_iconst dX12_otherWorkAct_115 (v := (0 : Int32)) (by decide) ?_
            obtain ⟨w23, h22, ew23, hq⟩ := jw_b2_spec hq
            refine jw_callS (As := [.int (v21 - (48 : Int32)), .int (0 : Int32)]) (S := [.ref x0]) (v := some (.int w23)) dX12_otherWorkAct_116 mt_X12_fileRow st_X12_fileRow lk_X12_394 (c_X12_fileRow ew23) rfl (by decide) (Nat.le_of_ble_eq_true rfl) rfl ?_
            refine jw_aload_n dX12_otherWorkAct_119 (o := (some x0)) rfl ?_
            obtain ⟨v24, ev24, hq⟩ := Option.bind_eq_some_iff.mp hq
            refine jw_getR (o := (some x0)) dX12_otherWorkAct_120 ev24 fl_X12_38 rfl ?_
            refine jw_aload_n dX12_otherWorkAct_123 (o := (some x0)) rfl ?_
            obtain ⟨v25, ev25, hq⟩ := Option.bind_eq_some_iff.mp hq
            refine jw_getR (o := (some x0)) dX12_otherWorkAct_124 ev25 fl_X12_44 rfl ?_
            refine jw_iload_n dX12_otherWorkAct_127 rfl ?_
            refine jw_iconst dX12_otherWorkAct_128 (v := (1 : Int32)) (by decide) ?_
            refine jw_iadd dX12_otherWorkAct_129 ?_
            obtain ⟨v26, ev26, hq⟩ := Option.bind_eq_some_iff.mp hq
            refine jw_iald (o := v25) dX12_otherWorkAct_130 ev26 ?_
            refine jw_bipush dX12_otherWorkAct_131 (v := (48 : Int32)) (by decide) ?_
            refine jw_isub dX12_otherWorkAct_133 ?_
            obtain ⟨v27, ev27, hq⟩ := Option.bind_eq_some_iff.mp hq
            refine jw_iald (o := v24) dX12_otherWorkAct_134 ev27 ?_
            obtain ⟨a28, ea28, hq⟩ := Option.bind_eq_some_iff.mp hq
            obtain ⟨eoa28, eta28⟩ := jw_rc_spec ea28
            obtain ⟨w30, h29, ew30, hq⟩ := jw_b2_spec hq
            refine jw_callV (As := [.int w23, .int v27]) (S := []) (a := a28) (v := some (.int w30)) dX12_otherWorkAct_135 mt_X12_dueRows in_X12_dueRows se_X12_dueRows lk_X12_606 (c_X12_dueRows ew30) eta28 (by decide) rfl rfl (by decide) (Nat.le_of_ble_eq_true rfl) (by cases eoa28; rfl) ?_
            cases hq
            exact jw_iret (ty := .int) dX12_otherWorkAct_138 rfl rfl
          · refine jw_icmp_ne_t (tgt := 139) dX12_otherWorkAct_100 (by decide) c7 ?_
            refine jw_iload_n dX12_otherWorkAct_139 rfl ?_
            refine jw_bipush dX12_otherWorkAct_140 (v := (119 : Int32)) (by decide) ?_
            rcases jw_if hq with ⟨c8, hq⟩ | ⟨c8, hq⟩
            · refine jw_icmp_ne_f (tgt := 161) dX12_otherWorkAct_142 (by decide) c8 ?_
              refine jw_aload_n dX12_otherWorkAct_145 (o := (some x0)) rfl ?_
              refine jw_aload_n dX12_otherWorkAct_146 (o := (some x0)) rfl ?_
              obtain ⟨v15, ev15, hq⟩ := Option.bind_eq_some_iff.mp hq
              refine jw_getR (o := (some x0)) dX12_otherWorkAct_147 ev15 fl_X12_44 rfl ?_
              refine jw_iload_n dX12_otherWorkAct_150 rfl ?_
              refine jw_iconst dX12_otherWorkAct_151 (v := (1 : Int32)) (by decide) ?_
              refine jw_iadd dX12_otherWorkAct_152 ?_
              obtain ⟨v16, ev16, hq⟩ := Option.bind_eq_some_iff.mp hq
              refine jw_iald (o := v15) dX12_otherWorkAct_153 ev16 ?_
              refine jw_bipush dX12_otherWorkAct_154 (v := (48 : Int32)) (by decide) ?_
              refine jw_isub dX12_otherWorkAct_156 ?_
              obtain ⟨a17, ea17, hq⟩ := Option.bind_eq_some_iff.mp hq
              obtain ⟨eoa17, eta17⟩ := jw_rc_spec ea17
              obtain ⟨w19, h18, ew19, hq⟩ := jw_b2_spec hq
              refine jw_callV (As := [.int (v16 - (48 : Int32))]) (S := []) (a := a17) (v := some (.int w19)) dX12_otherWorkAct_157 mt_X12_writeWork in_X12_writeWork se_X12_writeWork lk_X12_615 (c_X12_writeWork ew19) eta17 (by decide) rfl rfl (by decide) (Nat.le_of_ble_eq_true rfl) (by cases eoa17; rfl) ?_
              cases hq
              exact jw_iret (ty := .int) dX12_otherWorkAct_160 rfl rfl
            · refine jw_icmp_ne_t (tgt := 161) dX12_otherWorkAct_142 (by decide) c8 ?_
              refine jw_iload_n dX12_otherWorkAct_161 rfl ?_
              refine jw_bipush dX12_otherWorkAct_162 (v := (107 : Int32)) (by decide) ?_
              rcases jw_if hq with ⟨c9, hq⟩ | ⟨c9, hq⟩
              · refine jw_icmp_ne_f (tgt := 187) dX12_otherWorkAct_164 (by decide) c9 ?_
                refine jw_aload_n dX12_otherWorkAct_167 (o := (some x0)) rfl ?_
                obtain ⟨v10, ev10, hq⟩ := Option.bind_eq_some_iff.mp hq
                refine jw_getR (o := (some x0)) dX12_otherWorkAct_168 ev10 fl_X12_35 rfl ?_
                refine jw_aload_n dX12_otherWorkAct_171 (o := (some x0)) rfl ?_
                obtain ⟨v11, ev11, hq⟩ := Option.bind_eq_some_iff.mp hq
                refine jw_getR (o := (some x0)) dX12_otherWorkAct_172 ev11 fl_X12_44 rfl ?_
                refine jw_iload_n dX12_otherWorkAct_175 rfl ?_
                refine jw_iconst dX12_otherWorkAct_176 (v := (1 : Int32)) (by decide) ?_
                refine jw_iadd dX12_otherWorkAct_177 ?_
                obtain ⟨v12, ev12, hq⟩ := Option.bind_eq_some_iff.mp hq
                refine jw_iald (o := v11) dX12_otherWorkAct_178 ev12 ?_
                refine jw_bipush dX12_otherWorkAct_179 (v := (97 : Int32)) (by decide) ?_
                refine jw_isub dX12_otherWorkAct_181 ?_
                refine jw_aload_n dX12_otherWorkAct_182 (o := (some x0)) rfl ?_
                obtain ⟨v13, ev13, hq⟩ := Option.bind_eq_some_iff.mp hq
                refine jw_getI (o := (some x0)) dX12_otherWorkAct_183 ev13 fl_X12_548 rfl ?_
                obtain ⟨h14, eh14, hq⟩ := Option.bind_eq_some_iff.mp hq
                refine jw_iast (o := v10) dX12_otherWorkAct_186 eh14 ?_
                refine jw_iconst dX12_otherWorkAct_187 (v := (0 : Int32)) (by decide) ?_
                cases hq
                exact jw_iret (ty := .int) dX12_otherWorkAct_188 rfl rfl
              · refine jw_icmp_ne_t (tgt := 187) dX12_otherWorkAct_164 (by decide) c9 ?_
                refine jw_iconst dX12_otherWorkAct_187 (v := (0 : Int32)) (by decide) ?_
                cases hq
                exact jw_iret (ty := .int) dX12_otherWorkAct_188 rfl rfl

theorem c_X12_otherWorkAct {h : jw_H} {x0 : Nat} {x1 : Int32} {r : Int32} {h' : jw_H} (hq : f_X12_otherWorkAct h x0 x1 = some (r, h')) : jw_Con (Cond.code yX12_otherWorkAct cX12_otherWorkAct 3 (some .int)) yX12_otherWorkAct 7 [.ref x0, .int x1] h (.inl (some (.int r))) h' :=
  jw_con false (plainFor_of_name (by decide +kernel)) (fun z => nomatch z) (by simp [jw_ent, jw_sl0_nil, jw_sl0_int, jw_sl0_long, jw_sl0_ref, jw_sl0_rf, jw_sl0_scr, List.replicate]) (by simp [jw_sl0_nil, jw_sl0_int, jw_sl0_long, jw_sl0_ref, jw_sl0_rf, jw_sl0_scr]) (l_X12_otherWorkAct hq)

