/-! what is made: objects, arrays; copies; Object's constructor -/
theorem jw_dv : ∀ c, c < 12 → ∀ j, j < jw_nf c → defaultValue (jw_fty c j) = (bif jw_isR (jw_fty c j) then Value.null else Value.int 0) := by decide +kernel
theorem jw_t_new {h : jw_H} {t : Nat × Nat} {sl : Nat} : jw_t (jw_new h t sl) (jw_n h) = t := if_pos rfl
theorem jw_i_new {h : jw_H} {t : Nat × Nat} {sl : Nat} : jw_i (jw_new h t sl) (jw_n h) = fun _ => 0 := if_pos rfl
theorem jw_l_new {h : jw_H} {t : Nat × Nat} {sl : Nat} : jw_l (jw_new h t sl) (jw_n h) = fun _ => 0 := if_pos rfl
theorem jw_r_new {h : jw_H} {t : Nat × Nat} {sl : Nat} : jw_r (jw_new h t sl) (jw_n h) = fun _ => none := if_pos rfl
theorem jw_R.mk {D : va_G} {κ : Nat → ClassId} {tys tys' : List (ClassId × FieldType)} {σ : Nat → Nat} {h : jw_H} {A : Nat → Prop} {s : State} {Hm H1 : Heap} {t : Nat × Nat} {sl q : Nat} {cA : ClassId} {e : va_E} (M : jw_R D κ tys σ h A s Hm) (hK : va_K D vwCl tys' s)
    (hP : va_P D vwCl (jw_ws κ σ h ++ [(q, e)]) H1) (hD : va_D A (jw_ws κ σ h ++ [(q, e)])) (hsub : ∀ x ∈ tys, x ∈ tys') (h20 : 20 ≤ t.1 → (cA, jw_aty t.1) ∈ tys') (h13 : t.1 < 20 → t.1 < 12)
    (he : jw_cell (fun k => if k = jw_n h then cA else κ k) (fun k => if k = jw_n h then q else σ k) (jw_new h t sl) (jw_n h) = e) :
    jw_R D (fun k => if k = jw_n h then cA else κ k) tys' (fun k => if k = jw_n h then q else σ k) (jw_new h t sl) A s H1 := by
  have e1 : jw_ws κ σ h ++ [(q, e)] = jw_ws (fun k => if k = jw_n h then cA else κ k) (fun k => if k = jw_n h then q else σ k) (jw_new h t sl) := by
    refine jw_ws_push rfl (if_pos rfl) he fun j hj => ?_
    have hne : j ≠ jw_n h := Nat.ne_of_lt hj
    refine ⟨if_neg hne, jw_cell_same (if_neg hne) (if_neg hne) (if_neg hne) (if_neg hne) fun i => ?_⟩
    have e2 : jw_r (jw_new h t sl) j = jw_r h j := if_neg hne
    rw [e2]
    cases hr : jw_r h j i with
    | none => rfl
    | some z =>
      have hz := M.2.2.2.2.2.2 j i z hj hr
      show some (if z = jw_n h then q else σ z) = some (σ z)
      rw [if_neg (Nat.ne_of_lt hz)]
  rw [e1] at hP hD
  refine ⟨hK, hP, hD, ?_, ?_, ?_, ?_⟩
  · intro k hk hk2
    by_cases hkn : k = jw_n h
    · subst hkn
      have e3 : jw_t (jw_new h t sl) (jw_n h) = t := if_pos rfl
      rw [e3] at hk2 ⊢
      have e9 : (fun k => if k = jw_n h then cA else κ k) (jw_n h) = cA := if_pos rfl
      rw [e9]
      exact h20 hk2
    · have e3 : jw_t (jw_new h t sl) k = jw_t h k := if_neg hkn
      rw [e3] at hk2 ⊢
      have e9 : (fun k => if k = jw_n h then cA else κ k) k = κ k := if_neg hkn
      rw [e9]
      have hk3 : k < jw_n h + 1 := hk
      exact hsub _ (M.2.2.2.1 k (by omega) hk2)
  · intro k hk hk2
    by_cases hkn : k = jw_n h
    · subst hkn
      have e3 : jw_t (jw_new h t sl) (jw_n h) = t := if_pos rfl
      rw [e3] at hk2 ⊢
      exact h13 hk2
    · have e3 : jw_t (jw_new h t sl) k = jw_t h k := if_neg hkn
      rw [e3] at hk2 ⊢
      have hk3 : k < jw_n h + 1 := hk
      exact M.2.2.2.2.1 k (by omega) hk2
  · intro k j hk hk2
    by_cases hkn : k = jw_n h
    · subst hkn
      have e3 : jw_i (jw_new h t sl) (jw_n h) = fun _ => 0 := if_pos rfl
      rw [e3]
      rfl
    · have e3 : jw_t (jw_new h t sl) k = jw_t h k := if_neg hkn
      have e4 : jw_i (jw_new h t sl) k = jw_i h k := if_neg hkn
      rw [e3] at hk2
      rw [e4]
      have hk3 : k < jw_n h + 1 := hk
      exact M.2.2.2.2.2.1 k j (by omega) hk2
  · intro k j i hk hr
    show i < jw_n h + 1
    by_cases hkn : k = jw_n h
    · subst hkn
      have e3 : jw_r (jw_new h t sl) (jw_n h) = fun _ => none := if_pos rfl
      rw [e3] at hr
      cases hr
    · have e3 : jw_r (jw_new h t sl) k = jw_r h k := if_neg hkn
      rw [e3] at hr
      have hk3 : k < jw_n h + 1 := hk
      have := M.2.2.2.2.2.2 k j i (by omega) hr
      omega
theorem jw_M.mk {D : va_G} {A : Nat → Prop} {b mL : Nat} {σ0 : Nat → Nat} {hi : jw_H} {s : State} {κ : Nat → ClassId} {tys tys' : List (ClassId × FieldType)} {σ : Nat → Nat} {L : List (Option Value)} {h : jw_H} {Hm H1 : Heap} {locs : List Loc} {cells slots : Nat} {ls : Array Slot} {t : Nat × Nat} {sl q : Nat} {cA : ClassId} {e : va_E}
    (M : jw_M D A b mL σ0 hi s κ tys σ L h Hm locs cells slots ls) (hK : va_K D vwCl tys' s) (hP : va_P D vwCl (jw_ws κ σ h ++ [(q, e)]) H1) (hD : va_D A (jw_ws κ σ h ++ [(q, e)])) (hS : va_S A s.heap H1 locs) (hsub : ∀ x ∈ tys, x ∈ tys') (h20 : 20 ≤ t.1 → (cA, jw_aty t.1) ∈ tys') (h13 : t.1 < 20 → t.1 < 12)
    (he : jw_cell (fun k => if k = jw_n h then cA else κ k) (fun k => if k = jw_n h then q else σ k) (jw_new h t sl) (jw_n h) = e) :
    jw_M D A b mL σ0 hi s (fun k => if k = jw_n h then cA else κ k) tys' (fun k => if k = jw_n h then q else σ k) L (jw_new h t sl) H1 locs (cells + 1) (slots + sl) ls := by
  have hs : ∀ k, k < jw_n h → (if k = jw_n h then q else σ k) = σ k := fun k hk => if_neg (Nat.ne_of_lt hk)
  refine ⟨M.1.mk hK hP hD hsub h20 h13 he, hS, ⟨Nat.le_succ_of_le M.2.2.1.1, fun k hk => (hs k (Nat.lt_of_lt_of_le hk M.2.2.1.1)).trans (M.2.2.1.2 k hk)⟩, ⟨?_, ?_⟩, M.2.2.2.2.up hs (Nat.le_succ _)⟩
  · have := M.2.2.2.1.1
    show cells + 1 + jw_c hi = jw_c h + 1
    omega
  · have := M.2.2.2.1.2
    show slots + sl + jw_s hi = jw_s h + sl
    omega
section JWK
variable {d : Nat} {u : jw_U} {hi : jw_H} {pc : Nat} {L : List (Option Value)} {S : List Value} {h : jw_H} {r : Option Value ⊕ String} {hf : jw_H}
theorem jw_obj {idx a : Nat} (hd : decode u.2.1 pc = .ok (.invokespecial idx, 3)) (hl : Cond.methodLink u.1 idx Lib.objectInit ∈ jw_T) (hin : Cond.instanceMethod Lib.objectInit ∈ jw_T) (hc : Cond.code Lib.objectInit ⟨#[0xb1]⟩ 1 none ∈ jw_T) (h1 : 1 ≤ d) (hcat : (S.map fun v => v.category).sum ≤ 8) (k : jw_E d u hi (pc + 3) L S h r hf) : jw_E d u hi pc L (.ref a :: S) h r hf := by
  refine ⟨k.1, k.2.1, k.2.2.1, ?_⟩
  intro p l e R s m args below meth c b Ls xs D A Q σ0 hC hT hX κ tys σ Hm locs cells slots ls M hs
  have a1 := hC.2.2.2.2.2.2.2.1
  have a2 := hC.2.2.2.2.2.2.2.2.1
  refine W.objInit hC.1 hC.2.1 hC.2.2.2.1 (hC.2.2.2.2.1 _ hl) (hC.2.2.2.2.1 _ hin) (hC.2.2.2.2.1 _ hc) (g := F0 m pc ls ((Value.ref a :: S).map (jw_v σ b))) rfl (by show ls.size = _; rw [hC.2.2.1]; exact M.2.2.2.2.1) (a := σ a) (rest := S.map (jw_v σ b)) rfl hd (by omega) (by rw [jw_cats]; show 2 * 0 + _ + 12 ≤ _; omega) ?_
  exact k.2.2.2 p l e R s m args below meth c b Ls xs D A Q σ0 hC hT hX κ tys σ Hm locs cells slots ls M hs.tl
theorem jw_mk {idx c : Nat} (hd : decode u.2.1 pc = .ok (.new idx, 3)) (hc : c < 12) (hl : Cond.classLink u.1 idx (jw_cn c) ∈ jw_T) (hin : Cond.instantiable (jw_cn c) (jw_nf c) ∈ jw_T) (hini : Cond.initialized (jw_cn c) ∈ jw_T) (k : jw_E d u hi (pc + 3) L (.ref (jw_n h) :: S) (jw_new h (c, 0) (jw_nf c)) r hf) : jw_E d u hi pc L S h r hf := by
  have k1 : jw_n h + 1 ≤ jw_n hf := k.1
  have k2 : jw_c h + 1 ≤ jw_c hf := k.2.1
  have k3 : jw_s h + jw_nf c ≤ jw_s hf := k.2.2.1
  refine ⟨by omega, by omega, by omega, ?_⟩
  intro p l e R s m args below meth c0 b Ls xs D A Q σ0 hC hT hX κ tys σ Hm locs cells slots ls M hs
  have a1 := hC.2.2.2.2.2.2.2.2.2.1
  have a2 := hC.2.2.2.2.2.2.2.2.2.2.1
  have a3 := M.2.2.2.1.1
  have a4 := M.2.2.2.1.2
  refine va_new hC.1 hC.2.1 (Ts := jw_T) hC.2.2.2.2.1 (jw_in c hc) (jw_fty c) (jw_tyok c hc) hC.2.2.2.1 (hC.2.2.2.2.1 _ hl) (hC.2.2.2.2.1 _ hin) (hC.2.2.2.2.1 _ hini) M.1.1 M.1.2.1 M.1.2.2.1 M.2.1 hC.2.2.2.2.2.2.2.2.2.2.2.1 (jw_cl hc) (fs := (List.range (jw_nf c)).map fun j => bif jw_isR (jw_fty c j) then Value.null else Value.int 0) ?_ (by omega) (by omega) hd fun q H1 hP hD hS => ?_
  · intro j hj
    rw [jw_dv c hc j hj]
    simp [vp_V, List.getD_eq_getElem?_getD, List.getElem?_range, hj]
  · have M' := M.mk (t := (c, 0)) (sl := jw_nf c) (cA := 0) (q := q) M.1.1 hP hD hS (fun _ z => z) (fun z => by have z2 : 20 ≤ c := z; omega) (fun _ => hc) (by
      rw [jw_cell_o (c := c) (by rw [jw_t_new]) (by omega)]
      congr 2
      apply List.map_congr_left
      intro j hj
      simp only [jw_fv, jw_r_new, jw_i_new]
      rfl)
    have hsame : ∀ j, j < jw_n h → (if j = jw_n h then q else σ j) = σ j := fun j hj => if_neg (Nat.ne_of_lt hj)
    have kk := k.2.2.2 p l e R s m args below meth c0 b Ls xs D A Q σ0 hC hT hX _ tys _ H1 locs (cells + 1) (slots + jw_nf c) ls M' (jw_okS.cons (fun i z => by cases z; exact Nat.lt_succ_self _) (hs.up (Nat.le_succ _)))
    rw [List.map_cons, jw_vS_same hsame hs] at kk
    have e5 : jw_v (fun j => if j = jw_n h then q else σ j) b (.ref (jw_n h)) = .ref q := by simp [jw_v]
    rw [e5] at kk
    exact kk
theorem jw_mkI {x : Int32} (hd : decode u.2.1 pc = .ok (.newarray .int, 2)) (hl : Cond.arrayClass .int ∈ jw_T) (hx : ¬ x < 0) (hxl : x.toNatClampNeg ≤ 1000000)
    (k : jw_E d u hi (pc + 2) L (.ref (jw_n h) :: S) (jw_new h (20, x.toNatClampNeg) x.toNatClampNeg) r hf) : jw_E d u hi pc L (.int x :: S) h r hf := by
  have k1 : jw_n h + 1 ≤ jw_n hf := k.1
  have k2 : jw_c h + 1 ≤ jw_c hf := k.2.1
  have k3 : jw_s h + x.toNatClampNeg ≤ jw_s hf := k.2.2.1
  refine ⟨by omega, by omega, by omega, ?_⟩
  intro p l e R s m args below meth c0 b Ls xs D A Q σ0 hC hT hX κ tys σ Hm locs cells slots ls M hs
  have a1 := hC.2.2.2.2.2.2.2.2.2.1
  have a2 := hC.2.2.2.2.2.2.2.2.2.2.1
  have a3 := M.2.2.2.1.1
  have a4 := M.2.2.2.1.2
  refine va_newa (atype := .int) (ty := .int) (N' := x.toNatClampNeg) (a0 := (x.toNatClampNeg, .inl (fun _ => 0))) hC.1 hC.2.1 (hC.2.2.2.2.1 _ hl) rfl M.1.1 M.1.2.1 M.1.2.2.1 M.2.1 hC.2.2.2.2.2.2.2.2.2.2.2.1 (fun _ => rfl) hx rfl (by simp only [componentBytes]; omega) (by omega) (by omega) hd fun q cA H1 hK hP hD hS => ?_
  have M' := M.mk (t := (20, x.toNatClampNeg)) (sl := x.toNatClampNeg) (cA := cA) (q := q) hK hP hD hS (fun _ z => List.mem_append_left _ z) (fun _ => by
      refine List.mem_append_right _ ?_
      simp [jw_aty]) (fun z => by have z2 : 20 < 20 := z; omega) (by
      rw [jw_cell_a (by rw [jw_t_new]; exact Nat.le_of_ble_eq_true rfl), jw_ac_i (by rw [jw_t_new]; show (20 : Nat) < 23; decide)]
      rw [jw_t_new]
      simp [jw_i_new, jw_l_new])
  have hsame : ∀ j, j < jw_n h → (if j = jw_n h then q else σ j) = σ j := fun j hj => if_neg (Nat.ne_of_lt hj)
  have kk := k.2.2.2 p l e R s m args below meth c0 b Ls xs D A Q σ0 hC hT hX _ _ _ H1 locs (cells + 1) (slots + x.toNatClampNeg) ls M' (jw_okS.cons (fun i z => by cases z; exact Nat.lt_succ_self _) (hs.tl.up (Nat.le_succ _)))
  rw [List.map_cons, jw_vS_same hsame hs.tl] at kk
  have e5 : jw_v (fun j => if j = jw_n h then q else σ j) b (.ref (jw_n h)) = .ref q := by simp [jw_v]
  rw [e5] at kk
  exact kk
theorem jw_mkB {x : Int32} (hd : decode u.2.1 pc = .ok (.newarray .byte, 2)) (hl : Cond.arrayClass .byte ∈ jw_T) (hx : ¬ x < 0) (hxl : x.toNatClampNeg ≤ 1000000)
    (k : jw_E d u hi (pc + 2) L (.ref (jw_n h) :: S) (jw_new h (21, x.toNatClampNeg) x.toNatClampNeg) r hf) : jw_E d u hi pc L (.int x :: S) h r hf := by
  have k1 : jw_n h + 1 ≤ jw_n hf := k.1
  have k2 : jw_c h + 1 ≤ jw_c hf := k.2.1
  have k3 : jw_s h + x.toNatClampNeg ≤ jw_s hf := k.2.2.1
  refine ⟨by omega, by omega, by omega, ?_⟩
  intro p l e R s m args below meth c0 b Ls xs D A Q σ0 hC hT hX κ tys σ Hm locs cells slots ls M hs
  have a1 := hC.2.2.2.2.2.2.2.2.2.1
  have a2 := hC.2.2.2.2.2.2.2.2.2.2.1
  have a3 := M.2.2.2.1.1
  have a4 := M.2.2.2.1.2
  refine va_newa (atype := .byte) (ty := .byte) (N' := x.toNatClampNeg) (a0 := (x.toNatClampNeg, .inl (fun _ => 0))) hC.1 hC.2.1 (hC.2.2.2.2.1 _ hl) rfl M.1.1 M.1.2.1 M.1.2.2.1 M.2.1 hC.2.2.2.2.2.2.2.2.2.2.2.1 (fun _ => rfl) hx rfl (by simp only [componentBytes]; omega) (by omega) (by omega) hd fun q cA H1 hK hP hD hS => ?_
  have M' := M.mk (t := (21, x.toNatClampNeg)) (sl := x.toNatClampNeg) (cA := cA) (q := q) hK hP hD hS (fun _ z => List.mem_append_left _ z) (fun _ => by
      refine List.mem_append_right _ ?_
      simp [jw_aty]) (fun z => by have z2 : 21 < 20 := z; omega) (by
      rw [jw_cell_a (by rw [jw_t_new]; exact Nat.le_of_ble_eq_true rfl), jw_ac_i (by rw [jw_t_new]; show (21 : Nat) < 23; decide)]
      rw [jw_t_new]
      simp [jw_i_new, jw_l_new])
  have hsame : ∀ j, j < jw_n h → (if j = jw_n h then q else σ j) = σ j := fun j hj => if_neg (Nat.ne_of_lt hj)
  have kk := k.2.2.2 p l e R s m args below meth c0 b Ls xs D A Q σ0 hC hT hX _ _ _ H1 locs (cells + 1) (slots + x.toNatClampNeg) ls M' (jw_okS.cons (fun i z => by cases z; exact Nat.lt_succ_self _) (hs.tl.up (Nat.le_succ _)))
  rw [List.map_cons, jw_vS_same hsame hs.tl] at kk
  have e5 : jw_v (fun j => if j = jw_n h then q else σ j) b (.ref (jw_n h)) = .ref q := by simp [jw_v]
  rw [e5] at kk
  exact kk
theorem jw_mkZ {x : Int32} (hd : decode u.2.1 pc = .ok (.newarray .boolean, 2)) (hl : Cond.arrayClass .boolean ∈ jw_T) (hx : ¬ x < 0) (hxl : x.toNatClampNeg ≤ 1000000)
    (k : jw_E d u hi (pc + 2) L (.ref (jw_n h) :: S) (jw_new h (22, x.toNatClampNeg) x.toNatClampNeg) r hf) : jw_E d u hi pc L (.int x :: S) h r hf := by
  have k1 : jw_n h + 1 ≤ jw_n hf := k.1
  have k2 : jw_c h + 1 ≤ jw_c hf := k.2.1
  have k3 : jw_s h + x.toNatClampNeg ≤ jw_s hf := k.2.2.1
  refine ⟨by omega, by omega, by omega, ?_⟩
  intro p l e R s m args below meth c0 b Ls xs D A Q σ0 hC hT hX κ tys σ Hm locs cells slots ls M hs
  have a1 := hC.2.2.2.2.2.2.2.2.2.1
  have a2 := hC.2.2.2.2.2.2.2.2.2.2.1
  have a3 := M.2.2.2.1.1
  have a4 := M.2.2.2.1.2
  refine va_newa (atype := .boolean) (ty := .boolean) (N' := x.toNatClampNeg) (a0 := (x.toNatClampNeg, .inl (fun _ => 0))) hC.1 hC.2.1 (hC.2.2.2.2.1 _ hl) rfl M.1.1 M.1.2.1 M.1.2.2.1 M.2.1 hC.2.2.2.2.2.2.2.2.2.2.2.1 (fun _ => rfl) hx rfl (by simp only [componentBytes]; omega) (by omega) (by omega) hd fun q cA H1 hK hP hD hS => ?_
  have M' := M.mk (t := (22, x.toNatClampNeg)) (sl := x.toNatClampNeg) (cA := cA) (q := q) hK hP hD hS (fun _ z => List.mem_append_left _ z) (fun _ => by
      refine List.mem_append_right _ ?_
      simp [jw_aty]) (fun z => by have z2 : 22 < 20 := z; omega) (by
      rw [jw_cell_a (by rw [jw_t_new]; exact Nat.le_of_ble_eq_true rfl), jw_ac_i (by rw [jw_t_new]; show (22 : Nat) < 23; decide)]
      rw [jw_t_new]
      simp [jw_i_new, jw_l_new])
  have hsame : ∀ j, j < jw_n h → (if j = jw_n h then q else σ j) = σ j := fun j hj => if_neg (Nat.ne_of_lt hj)
  have kk := k.2.2.2 p l e R s m args below meth c0 b Ls xs D A Q σ0 hC hT hX _ _ _ H1 locs (cells + 1) (slots + x.toNatClampNeg) ls M' (jw_okS.cons (fun i z => by cases z; exact Nat.lt_succ_self _) (hs.tl.up (Nat.le_succ _)))
  rw [List.map_cons, jw_vS_same hsame hs.tl] at kk
  have e5 : jw_v (fun j => if j = jw_n h then q else σ j) b (.ref (jw_n h)) = .ref q := by simp [jw_v]
  rw [e5] at kk
  exact kk
theorem jw_mkL {x : Int32} (hd : decode u.2.1 pc = .ok (.newarray .long, 2)) (hl : Cond.arrayClass .long ∈ jw_T) (hx : ¬ x < 0) (hxl : x.toNatClampNeg ≤ 1000000)
    (k : jw_E d u hi (pc + 2) L (.ref (jw_n h) :: S) (jw_new h (23, x.toNatClampNeg) x.toNatClampNeg) r hf) : jw_E d u hi pc L (.int x :: S) h r hf := by
  have k1 : jw_n h + 1 ≤ jw_n hf := k.1
  have k2 : jw_c h + 1 ≤ jw_c hf := k.2.1
  have k3 : jw_s h + x.toNatClampNeg ≤ jw_s hf := k.2.2.1
  refine ⟨by omega, by omega, by omega, ?_⟩
  intro p l e R s m args below meth c0 b Ls xs D A Q σ0 hC hT hX κ tys σ Hm locs cells slots ls M hs
  have a1 := hC.2.2.2.2.2.2.2.2.2.1
  have a2 := hC.2.2.2.2.2.2.2.2.2.2.1
  have a3 := M.2.2.2.1.1
  have a4 := M.2.2.2.1.2
  refine va_newa (atype := .long) (ty := .long) (N' := x.toNatClampNeg) (a0 := (x.toNatClampNeg, .inr (.inl (fun _ => 0)))) hC.1 hC.2.1 (hC.2.2.2.2.1 _ hl) rfl M.1.1 M.1.2.1 M.1.2.2.1 M.2.1 hC.2.2.2.2.2.2.2.2.2.2.2.1 (fun _ => rfl) hx rfl (by simp only [componentBytes]; omega) (by omega) (by omega) hd fun q cA H1 hK hP hD hS => ?_
  have M' := M.mk (t := (23, x.toNatClampNeg)) (sl := x.toNatClampNeg) (cA := cA) (q := q) hK hP hD hS (fun _ z => List.mem_append_left _ z) (fun _ => by
      refine List.mem_append_right _ ?_
      simp [jw_aty]) (fun z => by have z2 : 23 < 20 := z; omega) (by
      rw [jw_cell_a (by rw [jw_t_new]; exact Nat.le_of_ble_eq_true rfl), jw_ac_l (by rw [jw_t_new])]
      rw [jw_t_new]
      simp [jw_i_new, jw_l_new])
  have hsame : ∀ j, j < jw_n h → (if j = jw_n h then q else σ j) = σ j := fun j hj => if_neg (Nat.ne_of_lt hj)
  have kk := k.2.2.2 p l e R s m args below meth c0 b Ls xs D A Q σ0 hC hT hX _ _ _ H1 locs (cells + 1) (slots + x.toNatClampNeg) ls M' (jw_okS.cons (fun i z => by cases z; exact Nat.lt_succ_self _) (hs.tl.up (Nat.le_succ _)))
  rw [List.map_cons, jw_vS_same hsame hs.tl] at kk
  have e5 : jw_v (fun j => if j = jw_n h then q else σ j) b (.ref (jw_n h)) = .ref q := by simp [jw_v]
  rw [e5] at kk
  exact kk
theorem jw_mkq {idx c : Nat} {x : Int32} (hd : decode u.2.1 pc = .ok (.anewarray idx, 3)) (hc : c = 5 ∨ c = 7 ∨ c = 9) (hl : Cond.classLink u.1 idx (jw_cn c) ∈ jw_T) (hx : ¬ x < 0) (hxl : x.toNatClampNeg ≤ 1000000)
    (k : jw_E d u hi (pc + 3) L (.ref (jw_n h) :: S) (jw_new h (30 + c, x.toNatClampNeg) x.toNatClampNeg) r hf) : jw_E d u hi pc L (.int x :: S) h r hf := by
  have k1 : jw_n h + 1 ≤ jw_n hf := k.1
  have k2 : jw_c h + 1 ≤ jw_c hf := k.2.1
  have k3 : jw_s h + x.toNatClampNeg ≤ jw_s hf := k.2.2.1
  refine ⟨by omega, by omega, by omega, ?_⟩
  intro p l e R s m args below meth c0 b Ls xs D A Q σ0 hC hT hX κ tys σ Hm locs cells slots ls M hs
  have a1 := hC.2.2.2.2.2.2.2.2.2.1
  have a2 := hC.2.2.2.2.2.2.2.2.2.2.1
  have a3 := M.2.2.2.1.1
  have a4 := M.2.2.2.1.2
  obtain ⟨-, -, -, -, -, -, -, z5, z7, z9, -⟩ := hC.2.2.2.2.2.2.1
  have hAO : va_AO (jw_cn c) s := by rcases hc with rfl | rfl | rfl <;> assumption
  refine va_newq hC.1 hC.2.1 hC.2.2.2.1 (hC.2.2.2.2.1 _ hl) hAO M.1.1 M.1.2.1 M.1.2.2.1 M.2.1 hC.2.2.2.2.2.2.2.2.2.2.2.1 hx rfl (by omega) (by omega) (by omega) hd fun q cA H1 hK hP hD hS => ?_
  have M' := M.mk (t := (30 + c, x.toNatClampNeg)) (sl := x.toNatClampNeg) (cA := cA) (q := q) hK hP hD hS (fun _ z => List.mem_append_left _ z) (fun _ => by
      refine List.mem_append_right _ ?_
      rw [jw_aty_o (by show 24 < 30 + c; omega)]
      simp) (fun z => by have z2 : 30 + c < 20 := z; omega) (by
      rw [jw_cell_a (by rw [jw_t_new]; show 20 ≤ 30 + c; omega), jw_ac_r (by rw [jw_t_new]; show 24 ≤ 30 + c; omega)]
      rw [jw_t_new]
      simp [jw_r_new])
  have hsame : ∀ j, j < jw_n h → (if j = jw_n h then q else σ j) = σ j := fun j hj => if_neg (Nat.ne_of_lt hj)
  have kk := k.2.2.2 p l e R s m args below meth c0 b Ls xs D A Q σ0 hC hT hX _ _ _ H1 locs (cells + 1) (slots + x.toNatClampNeg) ls M' (jw_okS.cons (fun i z => by cases z; exact Nat.lt_succ_self _) (hs.tl.up (Nat.le_succ _)))
  rw [List.map_cons, jw_vS_same hsame hs.tl] at kk
  have e5 : jw_v (fun j => if j = jw_n h then q else σ j) b (.ref (jw_n h)) = .ref q := by simp [jw_v]
  rw [e5] at kk
  exact kk
theorem jw_acp {idx t : Nat} {o1 o2 : Option Nat} {sp dp n : Int32} {h1 : jw_H} (hd : decode u.2.1 pc = .ok (.invokestatic idx, 3)) (ht : t = 20 ∨ t = 21) (hl : Cond.methodLink u.1 idx arraycopyName ∈ jw_T) (hnat : Cond.native arraycopyName ∈ jw_T) (hst : Cond.static arraycopyName ∈ jw_T) (hini : Cond.initialized "java/lang/System" ∈ jw_T) (hd1 : 1 ≤ d) (hcat : (S.map fun v => v.category).sum ≤ 8)
    (hg : jw_cp h t o1 sp o2 dp n = some h1) (k : jw_E d u hi (pc + 3) L S h1 r hf) : jw_E d u hi pc L (.int n :: .int dp :: va_rf o2 :: .int sp :: va_rf o1 :: S) h r hf := by
  cases o1 with
  | none => cases o2 <;> exact absurd hg (by simp [jw_cp])
  | some a =>
  cases o2 with
  | none => exact absurd hg (by simp [jw_cp])
  | some a2 =>
  by_cases hq : (jw_t h a).1 = t ∧ (jw_t h a2).1 = t ∧ ¬ sp < 0 ∧ ¬ dp < 0 ∧ ¬ n < 0 ∧ sp.toNatClampNeg + n.toNatClampNeg ≤ (jw_t h a).2 ∧ dp.toNatClampNeg + n.toNatClampNeg ≤ (jw_t h a2).2
  · have e1 := hg
    simp only [jw_cp, if_pos hq] at e1
    have e2 := Option.some.inj e1
    subst e2
    obtain ⟨q1, q2, q3, q4, q5, q6, q7⟩ := hq
    refine ⟨k.1, k.2.1, k.2.2.1, ?_⟩
    intro p l e R s m args below meth c0 b Ls xs D A Q σ0 hC hT hX κ tys σ Hm locs cells slots ls M hs
    have ha : a < jw_n h := hs.tl.tl.tl.tl.hd a rfl
    have hb2 : a2 < jw_n h := hs.tl.tl.hd a2 rfl
    have b1 := hC.2.2.2.2.2.2.2.1
    have b2 := hC.2.2.2.2.2.2.2.2.1
    obtain ⟨t0, ht0⟩ := jw_tys M.1 ha (by omega)
    obtain ⟨t1, ht1⟩ := jw_tys M.1 hb2 (by omega)
    rw [q1] at ht0
    rw [q2] at ht1
    refine va_copyi hC.1 hC.2.1 (hC.2.2.1.trans M.2.2.2.2.1.symm) hC.2.2.2.1 (hC.2.2.2.2.1 _ hl) (hC.2.2.2.2.1 _ hnat) (hC.2.2.2.2.1 _ hst) (hC.2.2.2.2.1 _ hini) M.1.1 M.1.2.1 M.1.2.2.1 M.2.1 a a2 t0 t1 (a0 := σ a) (c0 := κ a) (c1 := κ a2) (n0 := (jw_t h a).2) (n1 := (jw_t h a2).2) (f := jw_i h a) (g := jw_i h a2) (ty := jw_aty t)
      (by rw [jw_ws_get ha, jw_cell_a (by omega), jw_ac_i (by omega)]) (by rw [jw_ws_get hb2, jw_cell_a (by omega), jw_ac_i (by omega)]) ht0 ht1 (by rcases ht with rfl | rfl <;> rfl) q3 q4 q5 q6 q7 ?_ (by omega) (by rw [jw_cats, show nativeFrameWords "java/lang/System" "arraycopy" 5 = 7 from by decide +kernel]; omega) hd fun H1 locs1 hP hD hS => ?_
    · intro i _
      rcases ht with rfl | rfl
      · rfl
      · exact M.1.2.2.2.2.2.1 a _ ha q1
    · refine k.2.2.2 p l e R s m args below meth c0 b Ls xs D A Q σ0 hC hT hX κ tys σ H1 locs1 cells slots ls ⟨M.1.setc hb2 rfl rfl hP hD ?_ ?_ ?_ (fun j i q => M.1.2.2.2.2.2.2 a2 j i hb2 q), hS, M.2.2.1, M.2.2.2.1, M.2.2.2.2⟩ hs.tl.tl.tl.tl.tl
      · rw [jw_cell_a (by show 20 ≤ (jw_t h a2).1; omega), jw_ac_i (by show (jw_t h a2).1 < 23; omega)]
        show Sum.inl (κ a2, (jw_t h a2).2, Sum.inl (if a2 = a2 then va_cpy (jw_i h a) (jw_i h a2) sp.toNatClampNeg dp.toNatClampNeg n.toNatClampNeg else jw_i h a2)) = _
        rw [if_pos rfl]
      · intro j hj
        exact ⟨if_neg hj, rfl, rfl⟩
      · intro z j
        have e4 : t = 21 := q2.symm.trans z
        show fits .byte (.int ((if a2 = a2 then va_cpy (jw_i h a) (jw_i h a2) sp.toNatClampNeg dp.toNatClampNeg n.toNatClampNeg else jw_i h a2) j)) = true
        rw [if_pos rfl]
        unfold va_cpy
        split
        · exact M.1.2.2.2.2.2.1 a _ ha (q1.trans e4)
        · exact M.1.2.2.2.2.2.1 a2 _ hb2 z
  · exact absurd hg (by simp only [jw_cp, if_neg hq]; exact fun z => nomatch z)
theorem jw_aald2 {o v : Option Nat} {x : Int32} (hd : decode u.2.1 pc = .ok (.aaload, 1)) (hg : jw_ar h 24 o x = some v) (k : jw_E d u hi (pc + 1) L (va_rf v :: S) h r hf) : jw_E d u hi pc L (.int x :: va_rf o :: S) h r hf := by
  obtain ⟨q, hq, hv⟩ := Option.map_eq_some_iff.mp hg
  obtain ⟨a, rfl, ht, hin, rfl⟩ := jw_ix_spec hq
  have hv2 : jw_r h a x.toNatClampNeg = v := hv
  refine ⟨k.1, k.2.1, k.2.2.1, ?_⟩
  intro p l e R s m args below meth c0 b Ls xs D A Q σ0 hC hT hX κ tys σ Hm locs cells slots ls M hs
  have ha : a < jw_n h := hs.tl.hd a rfl
  have kk := k.2.2.2 p l e R s m args below meth c0 b Ls xs D A Q σ0 hC hT hX κ tys σ Hm locs cells slots ls M (jw_okS.cons (jw_ok_rf fun i hi2 => M.1.2.2.2.2.2.2 a _ i ha (hv2.trans hi2)) hs.tl.tl)
  obtain ⟨t0, ht0⟩ := jw_tys M.1 ha (by omega)
  rw [ht] at ht0
  rw [List.map_cons, jw_v_rf, ← hv2] at kk
  have ha2 : (jw_ws κ σ h)[a]? = some (σ a, .inl (κ a, (jw_t h a).2, .inr (.inr (.inr (.inr (fun j => (jw_r h a j).map σ)))))) := by rw [jw_ws_get ha, jw_cell_a (by omega), jw_ac_r (by omega)]
  have hlt : x.toNatClampNeg < (jw_t h a).2 := Nat.not_le.mp fun q => hin (Or.inr q)
  exact W.aald (v := va_rf ((jw_r h a x.toNatClampNeg).map σ)) (ty := .array .byte) hC.1 hC.2.1 (M.1.2.1 a _ ha2) ((M.1.1.2 t0 _ ht0).1 (jw_t h a).2 (fun j => va_rf ((jw_r h a j).map σ))) rfl (fun q => by cases q) (by show ¬ (x < 0 ∨ (arrV _ _ _).slots.size ≤ _); rw [arrV_size]; exact hin) (by show (arrV _ _ _).slots[_]? = _; rw [arrV_read _ _ hlt]) rfl rfl hd kk
theorem jw_aast {t : Nat} {o v : Option Nat} {x : Int32} {h1 : jw_H} (h30 : 30 ≤ t) (h43 : t < 42) (hd : decode u.2.1 pc = .ok (.aastore, 1)) (hg : jw_sr h t o x v = some h1) (k : jw_E d u hi (pc + 1) L S h1 r hf) : jw_E d u hi pc L (va_rf v :: .int x :: va_rf o :: S) h r hf := by
  unfold jw_sr at hg
  cases hq : jw_ix h t o x with
  | none => rw [hq] at hg; cases v <;> cases hg
  | some q =>
  cases v with
  | none => rw [hq] at hg; cases hg
  | some j =>
  rw [hq] at hg
  by_cases hj : (jw_t h j).1 = t - 30
  · simp only [if_pos hj] at hg
    have e1 := Option.some.inj hg
    obtain ⟨a, rfl, ht, hin, rfl⟩ := jw_ix_spec hq
    subst e1
    refine ⟨k.1, k.2.1, k.2.2.1, ?_⟩
    intro p l e R s m args below meth c0 b Ls xs D A Q σ0 hC hT hX κ tys σ Hm locs cells slots ls M hs
    have hjn : j < jw_n h := hs.hd j rfl
    have ha : a < jw_n h := hs.tl.tl.hd a rfl
    obtain ⟨t0, ht0⟩ := jw_tys M.1 ha (by omega)
    rw [ht, jw_aty_o (by omega)] at ht0
    refine va_astq hC.1 hC.2.1 M.1.1 M.1.2.1 M.1.2.2.1 M.2.1 a t0 j (t - 30) (cA := κ a) (r := (jw_cn (t - 30), jw_TX (t - 30), jw_nf (t - 30))) (n := (jw_t h a).2) (f := fun i => (jw_r h a i).map σ) (by rw [jw_ws_get ha, jw_cell_a (by omega), jw_ac_r (by omega)]) ht0 (by rw [jw_ws_get hjn, jw_cell_o hj (by omega)]) (jw_cl (by omega)) hin hd fun H1 locs1 hP hD hS => ?_
    refine k.2.2.2 p l e R s m args below meth c0 b Ls xs D A Q σ0 hC hT hX κ tys σ H1 locs1 cells slots ls ⟨M.1.setc ha rfl rfl hP hD ?_ (fun i hi2 => ⟨rfl, rfl, jw_u_ne hi2⟩) (fun q => by omega) ?_, hS, M.2.2.1, M.2.2.2.1, M.2.2.2.2⟩ hs.tl.tl.tl
    · rw [jw_cell_a (h := jw_setR h a x.toNatClampNeg (some j)) (by show 20 ≤ (jw_t h a).1; omega)]
      have e2 : jw_ac σ (jw_setR h a x.toNatClampNeg (some j)) a = .inr (.inr (.inr (.inr (va_up (fun i => (jw_r h a i).map σ) x.toNatClampNeg (some (σ j)))))) := by
        have e3 : (fun i => (jw_r (jw_setR h a x.toNatClampNeg (some j)) a i).map σ) = va_up (fun i => (jw_r h a i).map σ) x.toNatClampNeg (some (σ j)) := by
          funext i
          simp only [jw_r_R, jw_u_eq, va_up]
          by_cases hi2 : i = x.toNatClampNeg
          · simp [hi2]
          · simp [hi2]
        rw [← e3]
        exact jw_ac_r (h := jw_setR h a x.toNatClampNeg (some j)) (by show 24 ≤ (jw_t h a).1; omega)
      rw [e2]
      rfl
    · intro i z hz
      simp only [jw_r_R, jw_u_eq] at hz
      by_cases hi2 : i = x.toNatClampNeg
      · rw [if_pos hi2] at hz; cases hz; exact hjn
      · rw [if_neg hi2] at hz; exact M.1.2.2.2.2.2.2 a i z ha hz
  · simp only [if_neg hj] at hg
    cases hg
/-- a byte[4][60] is made: the outer row first -/
def jw_mm (h : jw_H) : jw_H := (jw_n h + 5, jw_c h + 5, jw_s h + 244,
  (fun k => if k < jw_n h then jw_t h k else if k = jw_n h then (24, 4) else (21, 60)), (fun k => if k < jw_n h then jw_i h k else fun _ => 0), (fun k => if k < jw_n h then jw_l h k else fun _ => 0),
  (fun k => if k < jw_n h then jw_r h k else if k = jw_n h then (fun j => if j < 4 then some (jw_n h + 1 + j) else none) else fun _ => none))
theorem jw_mka2 {idx : Nat} (hd : decode u.2.1 pc = .ok (.multianewarray idx 2, 4)) (hl : Cond.classLink u.1 idx "[[B" ∈ jw_T) (hb : Cond.arrayClass .byte ∈ jw_T)
    (k : jw_E d u hi (pc + 4) L (.ref (jw_n h) :: S) (jw_mm h) r hf) : jw_E d u hi pc L (.int 60 :: .int 4 :: S) h r hf := by
  have k1 : jw_n h + 5 ≤ jw_n hf := k.1
  have k2 : jw_c h + 5 ≤ jw_c hf := k.2.1
  have k3 : jw_s h + 244 ≤ jw_s hf := k.2.2.1
  refine ⟨by omega, by omega, by omega, ?_⟩
  intro p l e R s m args below meth c0 b Ls xs D A Q σ0 hC hT hX κ tys σ Hm locs cells slots ls M hs
  have a1 := hC.2.2.2.2.2.2.2.2.2.1
  have a2 := hC.2.2.2.2.2.2.2.2.2.2.1
  have a3 := M.2.2.2.1.1
  have a4 := M.2.2.2.1.2
  have hZ := hC.2.2.2.2.2.2.1
  have hby := hC.2.2.2.2.1 _ hb
  obtain ⟨cy, ky, compy, y1, y2, y3⟩ := Cond.arrayClass_spec hby
  have hKy : ArrOfT s cy .byte ∧ va_RA s cy .byte := ⟨fun N z => ⟨(fun q hq => by cases hq), ky, y2, compy, y3⟩, y1⟩
  have eP : jw_ws κ σ h ++ va_pl [] (fun _ => (.inr (0, []) : va_E)) = jw_ws κ σ h := List.append_nil _
  refine va_mna (X := jw_ws κ σ h) (L := []) (f := fun _ => .inr (0, [])) (ty := .byte) (cy := cy) (N' := 4) (K' := 60) (z := (60, .inl (fun _ => 0))) hC.1 hC.2.1 hC.2.2.2.1 (hC.2.2.2.2.1 _ hl) hZ.2.2.2.2.2.2.2.2.2.2.1 hby y1 M.1.1 (by rw [eP]; exact M.1.2.1) (by rw [eP]; exact M.1.2.2.1) M.2.1 hC.2.2.2.2.2.2.2.2.2.2.2.1 (by decide) (by decide) (by decide +kernel) (by decide +kernel) (by decide) (by decide) (by decide) rfl rfl (by omega) (by omega) (fun cz => arrV_new _ _ _) hd fun q rr cA H1 hinj _ hK hP hD hS => ?_
  generalize hκ : (fun j => if j < jw_n h then κ j else if j = jw_n h then cA else cy : Nat → ClassId) = κ'
  generalize hσ : (fun j => if j < jw_n h then σ j else if j = jw_n h then q else rr (j - (jw_n h + 1)) : Nat → Nat) = σ'
  have sl : ∀ j, j < jw_n h → σ' j = σ j := fun j hj => by rw [← hσ]; exact if_pos hj
  have eold : ∀ j, j < jw_n h → jw_cell κ' σ' (jw_mm h) j = jw_cell κ σ h j := fun j hj => by
    refine jw_cell_same (by rw [← hκ]; exact if_pos hj) (if_pos hj) (if_pos hj) (if_pos hj) fun i => ?_
    have e2 : jw_r (jw_mm h) j = jw_r h j := if_pos hj
    rw [e2]
    cases hr : jw_r h j i with
    | none => rfl
    | some z => show some (σ' z) = some (σ z); rw [sl z (M.1.2.2.2.2.2.2 j i z hj hr)]
  have e0 : ∀ {α : Type} {x y z : α}, (if jw_n h < jw_n h then x else if jw_n h = jw_n h then y else z) = y := fun {α x y z} => by rw [if_neg (Nat.lt_irrefl _), if_pos rfl]
  have en : ∀ {α : Type} {x y z : α} (i : Nat), (if jw_n h + 1 + i < jw_n h then x else if jw_n h + 1 + i = jw_n h then y else z) = z := fun {α x y z} i => by rw [if_neg (by omega), if_neg (by omega)]
  have enew : jw_cell κ' σ' (jw_mm h) (jw_n h) = .inl (cA, 4, .inr (.inr (.inr (.inr (fun i => if i < 4 then some (rr i) else none))))) := by
    have t0 : jw_t (jw_mm h) (jw_n h) = (24, 4) := e0
    have e8 : κ' (jw_n h) = cA := by rw [← hκ]; exact e0
    have r0 : jw_r (jw_mm h) (jw_n h) = fun j => if j < 4 then some (jw_n h + 1 + j) else none := e0
    have e3 : (fun i => (jw_r (jw_mm h) (jw_n h) i).map σ') = fun i => if i < 4 then some (rr i) else none := by
      rw [r0]
      funext i
      show Option.map σ' (if i < 4 then some (jw_n h + 1 + i) else none) = if i < 4 then some (rr i) else none
      by_cases hi4 : i < 4
      · rw [if_pos hi4, if_pos hi4]
        show some (σ' (jw_n h + 1 + i)) = some (rr i)
        rw [← hσ]
        show some (if jw_n h + 1 + i < jw_n h then _ else if jw_n h + 1 + i = jw_n h then _ else rr (jw_n h + 1 + i - (jw_n h + 1))) = _
        rw [en, Nat.add_sub_cancel_left]
      · rw [if_neg hi4, if_neg hi4]; rfl
    rw [jw_cell_a (by rw [t0]; exact Nat.le_of_ble_eq_true rfl), jw_ac_r (by rw [t0]; exact Nat.le_refl _), t0, e8, e3]
  have einn : ∀ i, jw_cell κ' σ' (jw_mm h) (jw_n h + 1 + i) = .inl (cy, 60, .inl (fun _ => 0)) := fun i => by
    have t0 : jw_t (jw_mm h) (jw_n h + 1 + i) = (21, 60) := en i
    have i0 : jw_i (jw_mm h) (jw_n h + 1 + i) = fun _ => 0 := if_neg (by omega)
    rw [jw_cell_a (by rw [t0]; exact Nat.le_of_ble_eq_true rfl), jw_ac_i (by rw [t0]; show 21 < 23; decide), t0, i0, show κ' (jw_n h + 1 + i) = cy from by rw [← hκ]; exact en i]
  have er : ∀ i, σ' (jw_n h + 1 + i) = rr i := fun i => by
    rw [← hσ]
    show (if jw_n h + 1 + i < jw_n h then _ else if jw_n h + 1 + i = jw_n h then _ else rr (jw_n h + 1 + i - (jw_n h + 1))) = _
    rw [en, Nat.add_sub_cancel_left]
  have eq0 : σ' (jw_n h) = q := by rw [← hσ]; exact e0
  have elist : ((jw_ws κ σ h ++ [(q, .inl (cA, 4, .inr (.inr (.inr (.inr (fun i => if i < 4 then some (rr i) else none))))))]) ++ va_pl ([] ++ (List.range 4).map rr) (vr_up (fun _ => .inr (0, [])) ((List.range 4).map rr) (.inl (cy, 60, .inl (fun _ => 0))))) = jw_ws κ' σ' (jw_mm h) := by
    have e5 : va_pl ([] ++ (List.range 4).map rr) (vr_up (fun _ => .inr (0, [])) ((List.range 4).map rr) (.inl (cy, 60, .inl (fun _ => 0)))) = (List.range 4).map (fun i => (rr i, (.inl (cy, 60, .inl (fun _ => 0)) : va_E))) := by
      unfold va_pl
      rw [List.nil_append, List.map_map]
      apply List.map_congr_left
      intro i hi2
      show (rr i, vr_up _ _ _ (rr i)) = _
      rw [vr_up_in (List.mem_map_of_mem hi2)]
    rw [e5]
    apply List.ext_getElem?
    intro j
    have l1 : (jw_ws κ σ h).length = jw_n h := by simp [jw_ws]
    by_cases hj : j < jw_n h
    · rw [List.getElem?_append_left (by simp [l1]; omega), List.getElem?_append_left (by omega), jw_ws_get hj, jw_ws_get (h := jw_mm h) (by show j < jw_n h + 5; omega), sl j hj, eold j hj]
    · by_cases hj0 : j = jw_n h
      · subst hj0
        rw [List.getElem?_append_left (by simp [l1]), List.getElem?_append_right (by omega), l1, Nat.sub_self, jw_ws_get (h := jw_mm h) (by show jw_n h < jw_n h + 5; omega), eq0, enew]
        rfl
      · obtain ⟨i, rfl⟩ : ∃ i, j = jw_n h + 1 + i := ⟨j - (jw_n h + 1), by omega⟩
        rw [List.getElem?_append_right (by simp [l1])]
        have e6 : jw_n h + 1 + i - (jw_ws κ σ h ++ [(q, (.inl (cA, 4, .inr (.inr (.inr (.inr (fun i => if i < 4 then some (rr i) else none))))) : va_E))]).length = i := by simp [l1]
        rw [e6]
        by_cases hi4 : i < 4
        · rw [jw_ws_get (h := jw_mm h) (by show jw_n h + 1 + i < jw_n h + 5; omega), er i, einn i]
          simp [List.getElem?_range, hi4]
        · rw [List.getElem?_eq_none (by simp; omega), List.getElem?_eq_none (by simp [jw_ws]; show jw_n h + 5 ≤ _; omega)]
  rw [elist] at hP hD
  have hle : jw_n h ≤ jw_n (jw_mm h) := Nat.le_add_right _ 5
  have tag0 : jw_t (jw_mm h) (jw_n h) = (24, 4) := e0
  have tagi : ∀ j, jw_n h < j → jw_t (jw_mm h) j = (21, 60) := fun j hj => by
    show (if j < jw_n h then jw_t h j else if j = jw_n h then (24, 4) else (21, 60)) = _
    rw [if_neg (by omega), if_neg (by omega)]
  have hK' : va_K D vwCl ((tys ++ [(cA, .array .byte)]) ++ [(cy, .byte)]) s := va_K.app hK ⟨hK.1, fun k9 x9 hx9 => by
    have hz : k9 < 1 := (List.getElem?_eq_some_iff.mp hx9).1
    have h00 : k9 = 0 := by omega
    subst h00
    cases hx9
    exact hKy⟩
  have MR : jw_R D κ' ((tys ++ [(cA, .array .byte)]) ++ [(cy, .byte)]) σ' (jw_mm h) A s H1 := by
    refine ⟨hK', hP, hD, ?_, ?_, ?_, ?_⟩
    · intro j hj hj2
      by_cases h1 : j < jw_n h
      · have e7 : jw_t (jw_mm h) j = jw_t h j := if_pos h1
        have e8 : κ' j = κ j := by rw [← hκ]; exact if_pos h1
        rw [e7] at hj2 ⊢
        rw [e8]
        exact List.mem_append_left _ (List.mem_append_left _ (M.1.2.2.2.1 j h1 hj2))
      · by_cases h2 : j = jw_n h
        · subst h2
          have e8 : κ' (jw_n h) = cA := by rw [← hκ]; exact e0
          rw [tag0, e8]
          exact List.mem_append_left _ (List.mem_append_right _ (by simp [jw_aty]))
        · have e8 : κ' j = cy := by
            rw [← hκ]
            show (if j < jw_n h then κ j else if j = jw_n h then cA else cy) = cy
            rw [if_neg h1, if_neg h2]
          rw [tagi j (by omega), e8]
          exact List.mem_append_right _ (by simp [jw_aty])
    · intro j hj hj2
      by_cases h1 : j < jw_n h
      · have e7 : jw_t (jw_mm h) j = jw_t h j := if_pos h1
        rw [e7] at hj2 ⊢
        exact M.1.2.2.2.2.1 j h1 hj2
      · by_cases h2 : j = jw_n h
        · subst h2; rw [tag0] at hj2; exact absurd hj2 (by show ¬ 24 < 20; decide)
        · rw [tagi j (by omega)] at hj2; exact absurd hj2 (by show ¬ 21 < 20; decide)
    · intro j i hj hj2
      by_cases h1 : j < jw_n h
      · have e7 : jw_t (jw_mm h) j = jw_t h j := if_pos h1
        have e9 : jw_i (jw_mm h) j = jw_i h j := if_pos h1
        rw [e7] at hj2
        rw [e9]
        exact M.1.2.2.2.2.2.1 j i h1 hj2
      · have e9 : jw_i (jw_mm h) j = fun _ => 0 := if_neg h1
        rw [e9]; rfl
    · intro j i z hj hz
      show z < jw_n h + 5
      by_cases h1 : j < jw_n h
      · have e9 : jw_r (jw_mm h) j = jw_r h j := if_pos h1
        rw [e9] at hz
        have := M.1.2.2.2.2.2.2 j i z h1 hz
        omega
      · by_cases h2 : j = jw_n h
        · subst h2
          have e9 : jw_r (jw_mm h) (jw_n h) = fun j => if j < 4 then some (jw_n h + 1 + j) else none := e0
          rw [e9] at hz
          by_cases hi4 : i < 4
          · simp only [if_pos hi4] at hz; cases hz; omega
          · simp only [if_neg hi4] at hz; cases hz
        · have e9 : jw_r (jw_mm h) j = fun _ => none := by
            show (if j < jw_n h then _ else if j = jw_n h then _ else fun _ => none) = _
            rw [if_neg h1, if_neg h2]
          rw [e9] at hz
          cases hz
  have M' : jw_M D A b u.2.2.1 σ0 hi s κ' ((tys ++ [(cA, .array .byte)]) ++ [(cy, .byte)]) σ' L (jw_mm h) H1 locs (cells + 1 + 4) (slots + 4 + 4 * 60) ls := by
    refine ⟨MR, hS, ⟨Nat.le_trans M.2.2.1.1 hle, fun j hj => (sl j (Nat.lt_of_lt_of_le hj M.2.2.1.1)).trans (M.2.2.1.2 j hj)⟩, ⟨?_, ?_⟩, M.2.2.2.2.up sl hle⟩
    · show cells + 1 + 4 + jw_c hi = jw_c h + 5; omega
    · show slots + 4 + 4 * 60 + jw_s hi = jw_s h + 244; omega
  have kk := k.2.2.2 p l e R s m args below meth c0 b Ls xs D A Q σ0 hC hT hX _ _ _ H1 locs (cells + 1 + 4) (slots + 4 + 4 * 60) ls M' (jw_okS.cons (fun i z => by cases z; show jw_n h < jw_n h + 5; omega) (hs.tl.tl.up hle))
  rw [List.map_cons, jw_vS_same sl hs.tl.tl] at kk
  have e5 : jw_v σ' b (.ref (jw_n h)) = .ref q := by show Value.ref (σ' (jw_n h)) = _; rw [eq0]
  rw [e5] at kk
  exact kk
end JWK
