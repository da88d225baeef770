/-! contracts, and calls by them -/
def jw_A (σ : Nat → Nat) (n sz : Nat) : Nat → Prop := fun q => (∃ k, k < n ∧ q = σ k) ∨ sz ≤ q
def jw_Pc (D : va_G) (κ : Nat → ClassId) (tys : List (ClassId × FieldType)) (σ : Nat → Nat) (b Ls : Nat) (xs : Nat → Int32) (sz : Nat) (as : List Value) (h : jw_H) : Array Value → State → Prop := fun v U =>
  v = (as.map (jw_v σ b)).toArray ∧ U.heap.size = sz ∧ jw_R D κ tys σ h (jw_A σ (jw_n h) sz) U U.heap ∧ jw_Z b Ls xs (jw_A σ (jw_n h) sz) U
theorem jw_Pc.blind {D : va_G} {κ : Nat → ClassId} {tys : List (ClassId × FieldType)} {σ : Nat → Nat} {b Ls : Nat} {xs : Nat → Int32} {sz : Nat} {as : List Value} {h : jw_H} : FrameBlind (jw_Pc D κ tys σ b Ls xs sz as h) := by
  intro a U g mk ⟨h1, h2, h3, h4⟩
  exact ⟨h1, h2, ⟨va_K.moved (u := U) (U := U.calling g mk a) (Vm.Alike.refl U.vm) h3.1, h3.2⟩, h4.go (State.WarmedH.refl U) (Nat.le_refl _) (fun _ _ _ => rfl) (fun _ q => q)⟩
def jw_Qc (D : va_G) (σ : Nat → Nat) (b sz : Nat) (h : jw_H) (r : Option Value ⊕ String) (h' : jw_H) : Array Value → State → Outcome → State → Prop := fun _ st o t =>
  ∃ (κ' : Nat → ClassId) (tys' : List (ClassId × FieldType)) (σ' : Nat → Nat) (v : Option Value), (∀ k, k < jw_n h → σ' k = σ k) ∧ r = .inl v ∧ o = .returned (v.map (jw_v σ' b)) ∧ (∀ w, v = some w → jw_ok (jw_n h') w) ∧
    jw_R D κ' tys' σ' h' (jw_A σ (jw_n h) sz) t t.heap ∧ va_F (jw_A σ (jw_n h) sz) st t
def jw_XC (D : va_G) (σ : Nat → Nat) (sz : Nat) (h : jw_H) (r : Option Value ⊕ String) (h' : jw_H) : String → State → State → Prop := fun E st t =>
  r = .inr E ∧ ∃ (κ' : Nat → ClassId) (tys' : List (ClassId × FieldType)) (σ' : Nat → Nat), (∀ k, k < jw_n h → σ' k = σ k) ∧ jw_R D κ' tys' σ' h' (jw_A σ (jw_n h) sz) t t.heap ∧ va_F (jw_A σ (jw_n h) sz) st t
/-- a method's contract: from the world h, on these arguments, it comes to r and the world h', within d frames -/
def jw_Con (wd : Cond) (y : MethodName) (d : Nat) (as : List Value) (h : jw_H) (r : Option Value ⊕ String) (h' : jw_H) : Prop :=
  jw_n h ≤ jw_n h' ∧ jw_c h ≤ jw_c h' ∧ jw_s h ≤ jw_s h' ∧
  ∀ (l : Launch), l.flags = flags0 → ∀ (D : va_G) (κ : Nat → ClassId) (tys : List (ClassId × FieldType)) (σ : Nat → Nat) (b Ls : Nat) (xs : Nat → Int32) (sz : Nat), jw_okS (jw_n h) as →
    vx_Met l y (wd :: jw_T) { frames := d, cells := jw_c h' - jw_c h, slots := jw_s h' - jw_s h, locals := d * 300 } (jw_Pc D κ tys σ b Ls xs sz as h) (jw_Qc D σ b sz h r h') (jw_XC D σ sz h r h') (jw_c h' - jw_c h) (jw_s h' - jw_s h) (jw_A σ (jw_n h) sz)
theorem jw_AA {D : va_G} {κ : Nat → ClassId} {tys : List (ClassId × FieldType)} {σ : Nat → Nat} {h : jw_H} {A : Nat → Prop} {s : State} {Hm : Heap} (M : jw_R D κ tys σ h A s Hm) (hz : s.heap.size ≤ Hm.size) (hA : ∀ q, s.heap.size ≤ q → A q) : ∀ q, jw_A σ (jw_n h) Hm.size q → A q := by
  rintro q (⟨k, hk, rfl⟩ | hq)
  · exact M.2.2.1.2 k _ (jw_ws_get (κ := κ) (σ := σ) hk)
  · exact hA q (Nat.le_trans hz hq)
theorem jw_selfD {A : Nat → Prop} {κ : Nat → ClassId} {σ : Nat → Nat} {h : jw_H} {sz : Nat} (hD : va_D A (jw_ws κ σ h)) : va_D (jw_A σ (jw_n h) sz) (jw_ws κ σ h) := by
  refine ⟨hD.1, fun k q hk => ?_⟩
  obtain ⟨h1, rfl⟩ := jw_ws_inv hk
  exact Or.inl ⟨k, h1, rfl⟩
theorem jw_pre {D : va_G} {A : Nat → Prop} {b mL : Nat} {σ0 : Nat → Nat} {hi : jw_H} {s : State} {κ : Nat → ClassId} {tys : List (ClassId × FieldType)} {σ : Nat → Nat} {L : List (Option Value)} {h : jw_H} {Hm : Heap} {locs : List Loc} {cells slots : Nat} {ls : Array Slot} {Ls : Nat} {xs : Nat → Int32}
    (M : jw_M D A b mL σ0 hi s κ tys σ L h Hm locs cells slots ls) (hZ : jw_Z b Ls xs A s) (hA : ∀ q, s.heap.size ≤ q → A q) (as : List Value) : ∀ U : State, U.heap = Hm → s.WarmedH U.vm → jw_Pc D κ tys σ b Ls xs Hm.size as h (as.map (jw_v σ b)).toArray U := by
  intro U hU hW
  obtain ⟨M1, M2, -⟩ := M
  have hAA := jw_AA M1 M2.1 hA
  refine ⟨rfl, by rw [hU], ⟨M1.1.moved hW.alike, by rw [hU]; exact M1.2.1, jw_selfD M1.2.2.1, M1.2.2.2⟩, ?_⟩
  exact hZ.go hW (by rw [hU]; exact M2.1) (fun q h1 h2 => by rw [hU]; exact M2.2.1 q h1 h2) hAA
theorem jw_cats (σ : Nat → Nat) (b : Nat) (S : List Value) : ((S.map (jw_v σ b)).map fun v => v.category).sum = (S.map fun v => v.category).sum := by
  rw [List.map_map]
  congr 1
  exact List.map_congr_left fun v _ => jw_v_cat σ b v
theorem jw_run {p : Program} {l : Launch} {e : Env} {R : Room} {s : State} {m : MethodId} {args : Array Value} {below : List Frame} {meth : Method} {c : Code} {Q : State → Prop} {D : va_G} {A : Nat → Prop} {b mL : Nat} {σ0 : Nat → Nat} {hi : jw_H} {κ : Nat → ClassId} {tys : List (ClassId × FieldType)} {σ : Nat → Nat} {L : List (Option Value)} {h h1 : jw_H} {Hm : Heap} {locs : List Loc} {cells slots : Nat} {ls : Array Slot}
    {S : List Value} {v : Option Value} {a : Array Value} {pc : Nat} {st0 : List Value}
    (run : vx_Run p l e R s m args below meth c Hm locs cells slots (jw_c h1 - jw_c h) (jw_s h1 - jw_s h) (F0 m pc ls st0) (S.map (jw_v σ b)) (jw_Qc D σ b Hm.size h (.inl v) h1 a) (jw_XC D σ Hm.size h (.inl v) h1) (jw_A σ (jw_n h) Hm.size))
    (M : jw_M D A b mL σ0 hi s κ tys σ L h Hm locs cells slots ls) (hA : ∀ q, s.heap.size ≤ q → A q) (hn : jw_n h ≤ jw_n h1 ∧ jw_c h ≤ jw_c h1 ∧ jw_s h ≤ jw_s h1) (hS : jw_okS (jw_n h) S)
    (kk : ∀ (κ' : Nat → ClassId) (tys' : List (ClassId × FieldType)) (σ' : Nat → Nat) (H1 : Heap) (locs1 : List Loc), jw_M D A b mL σ0 hi s κ' tys' σ' L h1 H1 locs1 (cells + (jw_c h1 - jw_c h)) (slots + (jw_s h1 - jw_s h)) ls → jw_okS (jw_n h1) (v.toList ++ S) →
      W p l e R s m args below meth c H1 locs1 (cells + (jw_c h1 - jw_c h)) (slots + (jw_s h1 - jw_s h)) Q (F0 m (pc + 3) ls ((v.toList ++ S).map (jw_v σ' b)))) : W p l e R s m args below meth c Hm locs cells slots Q (F0 m pc ls st0) := by
  intro T hT X
  have hAA := jw_AA M.1 M.2.1.1 hA
  rcases run T hT X with ⟨v', st₀, t, T', L', h0, X', hL, e1, e2, ⟨κ', tys', σ', v2, q1, q2, q3, q4, q5, q6⟩, st⟩ | ⟨q, st₀, t, T', L', E, ce, h0, X', hL, e1, e2, ⟨hx, -⟩, -⟩
  · cases q2
    cases q3
    obtain ⟨k1, k2, k3⟩ := vx_keep h0 e1 M.2.1 (fun q _ h2 => hAA q h2) hAA hL q6
    have hal : t.vm.Alike s.vm := by
      have h9 : s.vm.Alike T'.vm := X'.warmed.alike
      rw [e2] at h9
      exact h9.symm
    have M' : jw_M D A b mL σ0 hi s κ' tys' σ' L h1 T'.heap (locs ++ L') (cells + (jw_c h1 - jw_c h)) (slots + (jw_s h1 - jw_s h)) ls := by
      refine ⟨⟨q5.1.moved hal, by rw [e1]; exact q5.2.1, q5.2.2.1.weaken (fun k q hk hq => hAA _ hq), q5.2.2.2⟩, k3, ⟨Nat.le_trans M.2.2.1.1 hn.1, fun k hk => (q1 k (Nat.lt_of_lt_of_le hk M.2.2.1.1)).trans (M.2.2.1.2 k hk)⟩, ⟨?_, ?_⟩, M.2.2.2.2.up q1 hn.1⟩
      · have := M.2.2.2.1.1; omega
      · have := M.2.2.2.1.2; omega
    have hS' : jw_okS (jw_n h1) (v.toList ++ S) := by
      intro w hw
      rcases List.mem_append.mp hw with hw | hw
      · cases v with
        | none => cases hw
        | some z =>
          rw [Option.toList_some, List.mem_singleton] at hw
          subst hw
          exact q4 _ rfl
      · exact hS.up hn.1 w hw
    obtain ⟨t2, a1, b1⟩ := kk κ' tys' σ' T'.heap (locs ++ L') M' hS' T' rfl X'
    refine ⟨t2, st t2 ?_, b1⟩
    have e9 : (Option.map (jw_v σ' b) v).toList ++ S.map (jw_v σ b) = (v.toList ++ S).map (jw_v σ' b) := by
      rw [List.map_append, jw_vS_same q1 hS]
      cases v <;> rfl
    show Steps p.tables e below (T'.setTop (F0 m (pc + 3) ls ((Option.map (jw_v σ' b) v).toList ++ S.map (jw_v σ b)))) t2
    rw [e9]
    exact a1
  · cases hx
/-- what the tables say of a method that is called: by its name alone, or found by the receiver -/
def jw_mt (y : MethodName) (bytes : ByteArray) (maxL : Nat) (ret : Option FieldType) (n : Nat) : Prop :=
  Cond.code y bytes maxL ret ∈ jw_T ∧ Cond.initialized y.cls ∈ jw_T ∧ (y.cls ≠ "java/lang/invoke/MethodHandle" ∧ y.cls ≠ "java/lang/invoke/VarHandle" ∧ (parseMethodDescriptor y.desc).map (fun d => d.parameters.length) = some n) ∧ maxL ≤ 200
def jw_lk (own : String) (idx : Nat) (y : MethodName) : Prop := Cond.methodLink own idx y ∈ jw_T ∨ ∃ host, Cond.methodLinkNest own idx y host ∈ jw_Nb
theorem jw_goodC {w : Cond} (h : w ∈ jw_T) : GoodIn jw_T (w :: jw_T) := jw_good fun z hz => (List.mem_cons.mp hz).elim (fun e => e ▸ h) id
section JWC
variable {d : Nat} {u : jw_U} {hi : jw_H} {pc : Nat} {L : List (Option Value)} {S : List Value} {h : jw_H} {r : Option Value ⊕ String} {hf : jw_H}
variable {idx d' n maxL : Nat} {y : MethodName} {bytes : ByteArray} {ret : Option FieldType} {As S0 : List Value} {v : Option Value} {h1 : jw_H}
theorem jw_callS (hd : decode u.2.1 pc = .ok (.invokestatic idx, 3)) (hm : jw_mt y bytes maxL ret n) (hst : Cond.static y ∈ jw_T) (hl : jw_lk u.1 idx y) (hcon : jw_Con (Cond.code y bytes maxL ret) y d' As h (.inl v) h1) (hn : As.length = n) (hd' : d' + 1 ≤ d) (hcat : (S.map fun v => v.category).sum ≤ 8) (hS0 : S0 = As.reverse ++ S)
    (k : jw_E d u hi (pc + 3) L (v.toList ++ S) h1 r hf) : jw_E d u hi pc L S0 h r hf := by
  subst hS0
  refine ⟨Nat.le_trans hcon.1 k.1, Nat.le_trans hcon.2.1 k.2.1, Nat.le_trans hcon.2.2.1 k.2.2.1, ?_⟩
  intro p l e R s m args below meth c b Ls xs D A Q σ0 hC hT hX κ tys σ Hm locs cells slots ls M hs
  have hsA : jw_okS (jw_n h) As := fun w hw => hs w (List.mem_append_left _ (List.mem_reverse.mpr hw))
  have hsS : jw_okS (jw_n h) S := fun w hw => hs w (List.mem_append_right _ hw)
  have hMet := hcon.2.2.2 l hC.2.2.2.2.2.1 D κ tys σ b Ls xs Hm.size hsA
  have hcells : cells + (jw_c h1 - jw_c h) ≤ R.cells ∧ slots + (jw_s h1 - jw_s h) ≤ R.slots := by
    have a1 := hC.2.2.2.2.2.2.2.2.2.1
    have a2 := hC.2.2.2.2.2.2.2.2.2.2.1
    have a3 := M.2.2.2.1.1
    have a4 := M.2.2.2.1.2
    have a5 := k.2.1
    have a6 := k.2.2.1
    have a7 := hcon.2.1
    have a8 := hcon.2.2.1
    omega
  have hroom : d' + 1 ≤ R.frames ∧ 8 + (maxL + 11) + d' * 300 ≤ R.locals := by
    have a1 := hC.2.2.2.2.2.2.2.1
    have a2 := hC.2.2.2.2.2.2.2.2.1
    have a3 := hm.2.2.2
    have a4 : (d' + 1) * 300 ≤ d * 300 := Nat.mul_le_mul_right _ hd'
    omega
  have hls : ls.size = u.2.2.1 := M.2.2.2.2.1
  have hW : 2 * (F0 m pc ls ((As.reverse ++ S).map (jw_v σ b))).monitorRoom + ((S.map (jw_v σ b)).map fun v => v.category).sum ≤ 8 := by
    rw [jw_cats]; show 2 * 0 + _ ≤ 8; omega
  have hstk : (As.reverse ++ S).map (jw_v σ b) = (As.map (jw_v σ b)).reverse ++ S.map (jw_v σ b) := by rw [List.map_append, List.map_reverse]
  have hp : PreS s Hm (jw_Pc D κ tys σ b Ls xs Hm.size As h) (As.map (jw_v σ b)) := ⟨jw_Pc.blind, jw_pre M hC.2.2.2.2.2.2.1 hC.2.2.2.2.2.2.2.2.2.2.2.1 As⟩
  have fx : CallFix p m c u.2.1 u.2.2.1 s args jw_T u.1 := ⟨hC.1, hC.2.1, hC.2.2.1, hC.2.2.2.1, hC.2.2.2.2.1⟩
  have kk := fun κ' tys' σ' H1 locs1 M' hS' => k.2.2.2 p l e R s m args below meth c b Ls xs D A Q σ0 hC hT hX κ' tys' σ' H1 locs1 (cells + (jw_c h1 - jw_c h)) (slots + (jw_s h1 - jw_s h)) ls M' hS'
  rcases hl with hl | ⟨host, hl⟩
  · exact jw_run (vx_runS fx hMet ⟨callB_of n hC.2.2.2.2.1 (jw_goodC hm.1) rfl rfl rfl (hC.2.2.2.2.1 _ hm.2.1) (hC.2.2.2.2.1 _ hl) hm.2.2.1 hroom, hC.2.2.2.2.1 _ hst⟩ hp rfl (by rw [List.length_map]; exact hn) hls hstk hW hd hcells) M hC.2.2.2.2.2.2.2.2.2.2.2.1 ⟨hcon.1, hcon.2.1, hcon.2.2.1⟩ hsS kk
  · exact jw_run (vx_runSN fx hMet ⟨va_cnB n hC.2.2.2.2.1 (jw_goodC hm.1) rfl rfl rfl (hC.2.2.2.2.2.2.1.2.2.2.1 _ hl) (hC.2.2.2.2.1 _ hm.2.1) hm.2.2.1 hroom, hC.2.2.2.2.1 _ hst, trivial⟩ hp rfl (by rw [List.length_map]; exact hn) hls hstk hW hd hcells) M hC.2.2.2.2.2.2.2.2.2.2.2.1 ⟨hcon.1, hcon.2.1, hcon.2.2.1⟩ hsS kk
theorem jw_callV {c9 a : Nat} (hd : decode u.2.1 pc = .ok (.invokevirtual idx, 3)) (hm : jw_mt y bytes maxL ret n) (hin : Cond.instanceMethod y ∈ jw_T) (hse : Cond.selects y.cls y y ∈ jw_T) (hl : jw_lk u.1 idx y) (hcon : jw_Con (Cond.code y bytes maxL ret) y d' (.ref a :: As) h (.inl v) h1) (hrc : (jw_t h a).1 = c9) (hc9 : c9 < 12) (hyc : y.cls = jw_cn c9) (hn : As.length = n) (hd' : d' + 1 ≤ d) (hcat : (S.map fun v => v.category).sum ≤ 8) (hS0 : S0 = As.reverse ++ .ref a :: S)
    (k : jw_E d u hi (pc + 3) L (v.toList ++ S) h1 r hf) : jw_E d u hi pc L S0 h r hf := by
  subst hS0
  refine ⟨Nat.le_trans hcon.1 k.1, Nat.le_trans hcon.2.1 k.2.1, Nat.le_trans hcon.2.2.1 k.2.2.1, ?_⟩
  intro p l e R s m args below meth c b Ls xs D A Q σ0 hC hT hX κ tys σ Hm locs cells slots ls M hs
  have hsA : jw_okS (jw_n h) (.ref a :: As) := fun w hw => hs w ((List.mem_cons.mp hw).elim (fun q => q ▸ List.mem_append_right _ List.mem_cons_self) (fun q => List.mem_append_left _ (List.mem_reverse.mpr q)))
  have hsS : jw_okS (jw_n h) S := fun w hw => hs w (List.mem_append_right _ (List.mem_cons_of_mem _ hw))
  have ha : a < jw_n h := hsA.hd a rfl
  have hMet := hcon.2.2.2 l hC.2.2.2.2.2.1 D κ tys σ b Ls xs Hm.size hsA
  have hcells : cells + (jw_c h1 - jw_c h) ≤ R.cells ∧ slots + (jw_s h1 - jw_s h) ≤ R.slots := by
    have a1 := hC.2.2.2.2.2.2.2.2.2.1
    have a2 := hC.2.2.2.2.2.2.2.2.2.2.1
    have a3 := M.2.2.2.1.1
    have a4 := M.2.2.2.1.2
    have a5 := k.2.1
    have a6 := k.2.2.1
    have a7 := hcon.2.1
    have a8 := hcon.2.2.1
    omega
  have hroom : d' + 1 ≤ R.frames ∧ 8 + (maxL + 11) + d' * 300 ≤ R.locals := by
    have a1 := hC.2.2.2.2.2.2.2.1
    have a2 := hC.2.2.2.2.2.2.2.2.1
    have a3 := hm.2.2.2
    have a4 : (d' + 1) * 300 ≤ d * 300 := Nat.mul_le_mul_right _ hd'
    omega
  have hls : ls.size = u.2.2.1 := M.2.2.2.2.1
  have hW : 2 * (F0 m pc ls ((As.reverse ++ .ref a :: S).map (jw_v σ b))).monitorRoom + ((S.map (jw_v σ b)).map fun v => v.category).sum ≤ 8 := by
    rw [jw_cats]; show 2 * 0 + _ ≤ 8; omega
  have hstk : (As.reverse ++ Value.ref a :: S).map (jw_v σ b) = (As.map (jw_v σ b)).reverse ++ .ref (σ a) :: S.map (jw_v σ b) := by rw [List.map_append, List.map_reverse]; rfl
  have he : (jw_ws κ σ h)[a]? = some (σ a, .inr (c9, (List.range (jw_nf c9)).map (jw_fv σ h a c9))) := by rw [jw_ws_get ha, jw_cell_o hrc (by omega)]
  have hcell := va_recv (q := (jw_cn c9, jw_TX c9, jw_nf c9)) M.1.1 M.1.2.1 (jw_cl hc9) he
  have hp : PreV s Hm y.cls (σ a) (jw_Pc D κ tys σ b Ls xs Hm.size (.ref a :: As) h) (As.map (jw_v σ b)) := ⟨jw_Pc.blind, by rw [hyc]; exact hcell, jw_pre M hC.2.2.2.2.2.2.1 hC.2.2.2.2.2.2.2.2.2.2.2.1 (.ref a :: As)⟩
  have fx : CallFix p m c u.2.1 u.2.2.1 s args jw_T u.1 := ⟨hC.1, hC.2.1, hC.2.2.1, hC.2.2.2.1, hC.2.2.2.2.1⟩
  have kk := fun κ' tys' σ' H1 locs1 M' hS' => k.2.2.2 p l e R s m args below meth c b Ls xs D A Q σ0 hC hT hX κ' tys' σ' H1 locs1 (cells + (jw_c h1 - jw_c h)) (slots + (jw_s h1 - jw_s h)) ls M' hS'
  rcases hl with hl | ⟨host, hl⟩
  · exact jw_run (vx_runV fx hMet ⟨callB_of n hC.2.2.2.2.1 (jw_goodC hm.1) rfl rfl rfl (hC.2.2.2.2.1 _ hm.2.1) (hC.2.2.2.2.1 _ hl) hm.2.2.1 hroom, hC.2.2.2.2.1 _ hin, hC.2.2.2.2.1 _ hse⟩ hp rfl (by rw [List.length_map]; exact hn) hls hstk hW hd hcells) M hC.2.2.2.2.2.2.2.2.2.2.2.1 ⟨hcon.1, hcon.2.1, hcon.2.2.1⟩ hsS kk
  · exact jw_run (vx_runVN fx hMet ⟨va_cnB n hC.2.2.2.2.1 (jw_goodC hm.1) rfl rfl rfl (hC.2.2.2.2.2.2.1.2.2.2.1 _ hl) (hC.2.2.2.2.1 _ hm.2.1) hm.2.2.1 hroom, hC.2.2.2.2.1 _ hin, hC.2.2.2.2.1 _ hse⟩ hp rfl (by rw [List.length_map]; exact hn) hls hstk hW hd hcells) M hC.2.2.2.2.2.2.2.2.2.2.2.1 ⟨hcon.1, hcon.2.1, hcon.2.2.1⟩ hsS kk
theorem jw_callI {a : Nat} (hd : decode u.2.1 pc = .ok (.invokespecial idx, 3)) (hm : jw_mt y bytes maxL none n) (hin : Cond.instanceMethod y ∈ jw_T) (hy1 : y.name = "<init>") (hl : jw_lk u.1 idx y) (hcon : jw_Con (Cond.code y bytes maxL none) y d' (.ref a :: As) h (.inl v) h1) (hn : As.length = n) (hd' : d' + 1 ≤ d) (hcat : (S.map fun v => v.category).sum ≤ 8) (hS0 : S0 = As.reverse ++ .ref a :: S)
    (k : jw_E d u hi (pc + 3) L (v.toList ++ S) h1 r hf) : jw_E d u hi pc L S0 h r hf := by
  subst hS0
  refine ⟨Nat.le_trans hcon.1 k.1, Nat.le_trans hcon.2.1 k.2.1, Nat.le_trans hcon.2.2.1 k.2.2.1, ?_⟩
  intro p l e R s m args below meth c b Ls xs D A Q σ0 hC hT hX κ tys σ Hm locs cells slots ls M hs
  have hsA : jw_okS (jw_n h) (.ref a :: As) := fun w hw => hs w ((List.mem_cons.mp hw).elim (fun q => q ▸ List.mem_append_right _ List.mem_cons_self) (fun q => List.mem_append_left _ (List.mem_reverse.mpr q)))
  have hsS : jw_okS (jw_n h) S := fun w hw => hs w (List.mem_append_right _ (List.mem_cons_of_mem _ hw))
  have hMet := hcon.2.2.2 l hC.2.2.2.2.2.1 D κ tys σ b Ls xs Hm.size hsA
  have hcells : cells + (jw_c h1 - jw_c h) ≤ R.cells ∧ slots + (jw_s h1 - jw_s h) ≤ R.slots := by
    have a1 := hC.2.2.2.2.2.2.2.2.2.1
    have a2 := hC.2.2.2.2.2.2.2.2.2.2.1
    have a3 := M.2.2.2.1.1
    have a4 := M.2.2.2.1.2
    have a5 := k.2.1
    have a6 := k.2.2.1
    have a7 := hcon.2.1
    have a8 := hcon.2.2.1
    omega
  have hroom : d' + 1 ≤ R.frames ∧ 8 + (maxL + 11) + d' * 300 ≤ R.locals := by
    have a1 := hC.2.2.2.2.2.2.2.1
    have a2 := hC.2.2.2.2.2.2.2.2.1
    have a3 := hm.2.2.2
    have a4 : (d' + 1) * 300 ≤ d * 300 := Nat.mul_le_mul_right _ hd'
    omega
  have hls : ls.size = u.2.2.1 := M.2.2.2.2.1
  have hW : 2 * (F0 m pc ls ((As.reverse ++ .ref a :: S).map (jw_v σ b))).monitorRoom + ((S.map (jw_v σ b)).map fun v => v.category).sum ≤ 8 := by
    rw [jw_cats]; show 2 * 0 + _ ≤ 8; omega
  have hstk : (As.reverse ++ Value.ref a :: S).map (jw_v σ b) = (As.map (jw_v σ b)).reverse ++ .ref (σ a) :: S.map (jw_v σ b) := by rw [List.map_append, List.map_reverse]; rfl
  have hp : PreS s Hm (jw_Pc D κ tys σ b Ls xs Hm.size (.ref a :: As) h) (.ref (σ a) :: As.map (jw_v σ b)) := ⟨jw_Pc.blind, jw_pre M hC.2.2.2.2.2.2.1 hC.2.2.2.2.2.2.2.2.2.2.2.1 (.ref a :: As)⟩
  have fx : CallFix p m c u.2.1 u.2.2.1 s args jw_T u.1 := ⟨hC.1, hC.2.1, hC.2.2.1, hC.2.2.2.1, hC.2.2.2.2.1⟩
  have kk := fun κ' tys' σ' H1 locs1 M' hS' => k.2.2.2 p l e R s m args below meth c b Ls xs D A Q σ0 hC hT hX κ' tys' σ' H1 locs1 (cells + (jw_c h1 - jw_c h)) (slots + (jw_s h1 - jw_s h)) ls M' hS'
  rcases hl with hl | ⟨host, hl⟩
  · exact jw_run (vx_runI fx hMet ⟨callB_of n hC.2.2.2.2.1 (jw_goodC hm.1) rfl rfl rfl (hC.2.2.2.2.1 _ hm.2.1) (hC.2.2.2.2.1 _ hl) hm.2.2.1 hroom, hy1, hC.2.2.2.2.1 _ hin⟩ hp rfl (by rw [List.length_map]; exact hn) hls hstk hW hd hcells) M hC.2.2.2.2.2.2.2.2.2.2.2.1 ⟨hcon.1, hcon.2.1, hcon.2.2.1⟩ hsS kk
  · exact jw_run (vx_runIN fx hMet ⟨va_cnB n hC.2.2.2.2.1 (jw_goodC hm.1) rfl rfl rfl (hC.2.2.2.2.2.2.1.2.2.2.1 _ hl) (hC.2.2.2.2.1 _ hm.2.1) hm.2.2.1 hroom, hy1, hC.2.2.2.2.1 _ hin⟩ hp rfl (by rw [List.length_map]; exact hn) hls hstk hW hd hcells) M hC.2.2.2.2.2.2.2.2.2.2.2.1 ⟨hcon.1, hcon.2.1, hcon.2.2.1⟩ hsS kk
end JWC
/-- the locals at a method's start -/
def jw_sl0 : List Value → List (Option Value)
  | [] => []
  | v :: vs => if v.category = 2 then some v :: none :: jw_sl0 vs else some v :: jw_sl0 vs
def jw_ent (as : List Value) (mL : Nat) : List (Option Value) := jw_sl0 as ++ List.replicate (mL - (jw_sl0 as).length) none
theorem jw_sl0_len (σ : Nat → Nat) (b : Nat) : ∀ as : List Value, (lg_sl (as.map (jw_v σ b))).length = (jw_sl0 as).length
  | [] => rfl
  | v :: vs => by
    have ih := jw_sl0_len σ b vs
    simp only [lg_sl, List.map_cons, List.flatMap_cons, List.length_append] at ih ⊢
    rw [jw_v_cat]
    by_cases hc : v.category = 2
    · simp [jw_sl0, hc, ih]; omega
    · simp [jw_sl0, hc, ih]; omega
theorem jw_sl0_get (σ : Nat → Nat) (b : Nat) : ∀ (as : List Value) (i0 i : Nat) (v : Value), (jw_sl0 as)[i]? = some (some v) → (i0 + i, jw_v σ b v) ∈ lv_args i0 (as.map (jw_v σ b)) ∧ v ∈ as
  | [], _, i, v, h => by simp [jw_sl0] at h
  | w :: vs, i0, i, v, h => by
    by_cases hc : w.category = 2
    · simp only [jw_sl0, if_pos hc] at h
      simp only [List.map_cons, lv_args, jw_v_cat, if_pos hc]
      match i, h with
      | 0, h =>
        have e : w = v := by simpa using h
        subst e
        exact ⟨List.mem_cons_self, List.mem_cons_self⟩
      | 1, h => simp at h
      | j + 2, h =>
        have h2 : (jw_sl0 vs)[j]? = some (some v) := by simpa using h
        obtain ⟨q1, q2⟩ := jw_sl0_get σ b vs (i0 + 2) j v h2
        refine ⟨List.mem_cons_of_mem _ ?_, List.mem_cons_of_mem _ q2⟩
        rw [show i0 + (j + 2) = i0 + 2 + j by omega]
        exact q1
    · simp only [jw_sl0, if_neg hc] at h
      simp only [List.map_cons, lv_args, jw_v_cat, if_neg hc]
      match i, h with
      | 0, h =>
        have e : w = v := by simpa using h
        subst e
        exact ⟨List.mem_cons_self, List.mem_cons_self⟩
      | j + 1, h =>
        have h2 : (jw_sl0 vs)[j]? = some (some v) := by simpa using h
        obtain ⟨q1, q2⟩ := jw_sl0_get σ b vs (i0 + 1) j v h2
        refine ⟨List.mem_cons_of_mem _ ?_, List.mem_cons_of_mem _ q2⟩
        rw [show i0 + (j + 1) = i0 + 1 + j by omega]
        exact q1
theorem jw_entry {σ : Nat → Nat} {b n : Nat} {as : List Value} {mL : Nat} (hl : (jw_sl0 as).length ≤ mL) (ho : jw_okS n as) : jw_Lo σ b n (jw_ent as mL) ((lg_sl (as.map (jw_v σ b)) ++ List.replicate (mL - (lg_sl (as.map (jw_v σ b))).length) Slot.unset).toArray) mL := by
  have hh := lv_entry (as.map (jw_v σ b)) (n := mL) (by rw [jw_sl0_len]; exact hl)
  refine ⟨hh.1, hh.2.1, by simp [jw_ent]; omega, fun i v hv => ?_⟩
  have hi : i < (jw_sl0 as).length := by
    rcases Nat.lt_or_ge i (jw_sl0 as).length with h | h
    · exact h
    · unfold jw_ent at hv
      rw [List.getElem?_append_right h] at hv
      have := List.eq_of_mem_replicate (List.mem_of_getElem? hv)
      cases this
  unfold jw_ent at hv
  rw [List.getElem?_append_left hi] at hv
  obtain ⟨q1, q2⟩ := jw_sl0_get σ b as 0 i v hv
  rw [Nat.zero_add] at q1
  exact ⟨hh.2.2 _ q1, ho v q2⟩
theorem jw_isR_spec {ty : FieldType} (h : jw_isR ty = true) : (∃ n, ty = .object n) ∨ ∃ t, ty = .array t := by
  cases ty <;> first | exact Or.inl ⟨_, rfl⟩ | exact Or.inr ⟨_, rfl⟩ | exact absurd h (by simp [jw_isR])
/-- the end of a walk, at a return -/
theorem jw_end {p : Program} {l : Launch} {e : Env} {R : Room} {s : State} {m : MethodId} {args : Array Value} {below : List Frame} {meth : Method} {c : Code} {cc : ByteArray} {ret : Option FieldType} {D : va_G} {b mL sz : Nat} {h hf : jw_H} {σ0 : Nat → Nat} {r : Option Value ⊕ String}
    (hx : p.tables.exec = Jvm.exec) (hb : c.code = cc) (hr : meth.sig.returnType = ret) (hlk : meth.locks = false) (hsz : s.heap.size = sz)
    (κ : Nat → ClassId) (tys : List (ClassId × FieldType)) (σ : Nat → Nat) (Hm : Heap) (locs : List Loc) (cells slots : Nat) (ls : Array Slot) (pc : Nat) (i : Instr) (L' : List (Option Value)) (S' : List Value)
    (M : jw_M D (jw_A σ0 (jw_n h) sz) b mL σ0 h s κ tys σ L' hf Hm locs cells slots ls) (hs : jw_okS (jw_n hf) S') (hd : decode cc pc = .ok (i, 1)) (hi : jw_ri i r S') (hrt : jw_rt ret r) :
    W p l e R s m args below meth c Hm locs cells slots (vx_MQ below (jw_Qc D σ0 b sz h r hf) (jw_XC D σ0 sz h r hf) args s (jw_c hf - jw_c h) (jw_s hf - jw_s h) (jw_A σ0 (jw_n h) sz)) (F0 m pc ls (S'.map (jw_v σ b))) := by
  have e1 : jw_c hf - jw_c h = cells := by have := M.2.2.2.1.1; omega
  have e2 : jw_s hf - jw_s h = slots := by have := M.2.2.2.1.2; omega
  rw [e1, e2]
  have hq : ∀ (v : Option Value), r = .inl v → (∀ w, v = some w → jw_ok (jw_n hf) w) → ∀ t : State, t.heap = Hm → s.WarmedH t.vm → jw_Qc D σ0 b sz h r hf args s (.returned (v.map (jw_v σ b))) t := by
    intro v hv hok t ht hW
    refine ⟨κ, tys, σ, v, M.2.2.1.2, hv, rfl, hok, ⟨M.1.1.moved hW.alike, by rw [ht]; exact M.1.2.1, M.1.2.2⟩, M.2.1.F ht⟩
  have hfr : ∀ q ∈ locs, jw_A σ0 (jw_n h) sz q.base := M.2.1.2.2
  rcases hi with ⟨rfl, x, hr1, rfl⟩ | ⟨rfl, x, hr1, rfl⟩ | ⟨rfl, o, hr1, rfl⟩ | ⟨rfl, hr1, rfl⟩
  · rcases hrt with ⟨x2, ty, h1, h2, h3⟩ | ⟨x2, h1, h2⟩ | ⟨o, ty, h1, h2, h3⟩ | ⟨h1, h2⟩ | ⟨E, h2⟩
    · rw [hr1] at h2
      cases h2
      exact vx_ret (W.zret hx hb (hr.trans h1) h3 (hq _ hr1 (fun w hw => by cases hw; exact jw_ok_int)) hfr hd hlk)
    · rw [hr1] at h2; cases h2
    · rw [hr1] at h3; cases o <;> cases h3
    · rw [hr1] at h2; cases h2
    · rw [hr1] at h2; cases h2
  · rcases hrt with ⟨x2, ty, h1, h2, h3⟩ | ⟨x2, h1, h2⟩ | ⟨o, ty, h1, h2, h3⟩ | ⟨h1, h2⟩ | ⟨E, h2⟩
    · rw [hr1] at h2; cases h2
    · rw [hr1] at h2
      cases h2
      exact vx_ret (W.lret hx hb (hr.trans h1) (hq _ hr1 (fun w hw => by cases hw; exact jw_ok_long)) hfr hd hlk)
    · rw [hr1] at h3; cases o <;> cases h3
    · rw [hr1] at h2; cases h2
    · rw [hr1] at h2; cases h2
  · rcases hrt with ⟨x2, ty, h1, h2, h3⟩ | ⟨x2, h1, h2⟩ | ⟨o2, ty, h1, h2, h3⟩ | ⟨h1, h2⟩ | ⟨E, h2⟩
    · rw [hr1] at h2; cases o <;> cases h2
    · rw [hr1] at h2; cases o <;> cases h2
    · have hv : jw_v σ b (va_rf o) = .null ∨ ∃ a, jw_v σ b (va_rf o) = .ref a := by cases o <;> first | exact Or.inl rfl | exact Or.inr ⟨_, rfl⟩
      exact vx_ret (W.aret hx hb (hr.trans h1) (jw_isR_spec h2) hv (hq _ hr1 (fun w hw => by cases hw; exact hs.hd)) hfr hd hlk)
    · rw [hr1] at h2; cases h2
    · rw [hr1] at h2; cases h2
  · rcases hrt with ⟨x2, ty, h1, h2, h3⟩ | ⟨x2, h1, h2⟩ | ⟨o2, ty, h1, h2, h3⟩ | ⟨h1, h2⟩ | ⟨E, h2⟩
    · rw [hr1] at h2; cases h2
    · rw [hr1] at h2; cases h2
    · rw [hr1] at h3; cases h3
    · exact vx_ret (W.vret hx hb (hr.trans h1) (hq none hr1 (fun w hw => by cases hw)) hfr hd hlk)
    · rw [hr1] at h2; cases h2
theorem jw_ofW {l : Launch} {y : MethodName} {ws ws' : List Cond} {rm : Room} {Pc : Array Value → State → Prop} {Qc : Array Value → State → Outcome → State → Prop} {XC : String → State → State → Prop} {mc ms : Nat} {free : Addr → Prop} {cc : ByteArray} {maxL : Nat} {ret : Option FieldType}
    (hy : plainFor y = true) (hw : ws = Cond.code y cc maxL ret :: ws')
    (body : ∀ p e s m args below meth c s₁, BodyLoose p l y (headSpec ws rm) cc maxL ret e s m args below meth c s₁ → c.maxLocals = maxL → (∀ x ∈ c.exceptionTable.toList, False) → Pc args s →
      W p l e (headSpec ws rm).room s m args below meth c s.heap [] 0 0 (vx_MQ below Qc XC args s mc ms free) (entryFrame m args maxL)) : vx_Met l y ws rm Pc Qc XC mc ms free := by
  refine MetFree.of_bodySF (code := cc) (maxLocals := maxL) (ret := ret) hy ?_ ?_
  · intro args s m h hn
    obtain ⟨meth, c, h1, h2, h3, h4, h5, h6, -, -⟩ := Cond.code_spec hn (atoms_spec (ws := ws) h _ (by rw [hw]; exact List.mem_cons_self))
    exact ⟨meth, c, h1, h2, h3, h4, h5, h6⟩
  · intro p e s m args below meth c s₁ B hml hP _
    have hh0 : s₁.heap = s.heap := by rw [B.state]; rfl
    have ht : ∀ x ∈ c.exceptionTable.toList, False := by
      obtain ⟨meth9, c9, h1, h2, -, -, -, -, h7, -⟩ := Cond.code_spec B.named (atoms_spec (ws := ws) B.pre _ (by rw [hw]; exact List.mem_cons_self))
      cases Option.some.inj (h1.symm.trans B.method)
      cases Option.some.inj (h2.symm.trans (Stand.of_body B).code)
      intro x hx
      rw [Array.isEmpty_iff.mp h7] at hx
      cases hx
    obtain ⟨t, a1, o, b1, b2, b3⟩ := body p e s m args below meth c s₁ B hml ht hP s₁ hh0 (Stand.of_body B)
    exact ⟨t, o, a1, b1, b2, b3⟩
/-- the end of a walk, at a throw -/
theorem jw_endX {p : Program} {l : Launch} {e : Env} {R : Room} {s : State} {m : MethodId} {args : Array Value} {below : List Frame} {meth : Method} {c : Code} {u : jw_U} {D : va_G} {b Ls sz d : Nat} {xs : Nat → Int32} {h hf : jw_H} {σ0 : Nat → Nat} {r : Option Value ⊕ String}
    (hC : jw_C p l e R s m args meth c d u h hf b Ls xs (jw_A σ0 (jw_n h) sz)) (hlk : meth.locks = false)
    (κ : Nat → ClassId) (tys : List (ClassId × FieldType)) (σ : Nat → Nat) (Hm : Heap) (locs : List Loc) (cells slots : Nat) (ls : Array Slot) (pc : Nat) (L' : List (Option Value)) (S' : List Value) (h' : jw_H) (E : String)
    (M : jw_M D (jw_A σ0 (jw_n h) sz) b u.2.2.1 σ0 h s κ tys σ L' h' Hm locs cells slots ls) (hf' : hf = jw_thw h') (hr : r = .inr E) (ht : jw_th u pc E) (h8 : 8 ≤ d) (hcat : (S'.map fun v => v.category).sum ≤ 8) :
    W p l e R s m args below meth c Hm locs cells slots (vx_MQ below (jw_Qc D σ0 b sz h r hf) (jw_XC D σ0 sz h r hf) args s (jw_c hf - jw_c h) (jw_s hf - jw_s h) (jw_A σ0 (jw_n h) sz)) (F0 m pc ls (S'.map (jw_v σ b))) := by
  obtain ⟨⟨hu, hno⟩, ik, is, ic, text, ⟨t1, t2, t3, t4, t5, t6, t8⟩, hsb, d0, d3, d4, d6, d9⟩ := ht
  obtain ⟨hx, hb, hml, hown, hts, hfl, hZ, hfr, hlo, hce, hsl, -, -, htab, -⟩ := hC
  rw [hu] at hown
  obtain ⟨sa, hstr⟩ := hZ.2.2.2.2.2.2.1 _ hsb
  have e1 := M.2.2.2.1.1
  have e2 := M.2.2.2.1.2
  have e3 : jw_c hf = jw_c h' + 1 := by rw [hf']; rfl
  have e4 : jw_s hf = jw_s h' + 6 := by rw [hf']; rfl
  have hl : l.stackTraces = false := by
    unfold Launch.stackTraces
    rw [hfl]
    decide +kernel
  refine vx_throwS (names := ["java/lang/RuntimeException", "java/lang/Exception"]) hx hb hl hown t1 t2 (hts _ t3) (hts _ t4) hstr ?_ t8 hZ.2.2.2.2.1 hZ.2.2.2.2.2.1 M.2.1 (M.2.2.2.2.1.trans hml.symm) d0 d3 d4 d6 d9 (fun x q => by rw [htab _ hno] at q; cases q) (by show 2 + 3 < R.frames; omega) (by rw [jw_cats]; show _ + (13 * (2 + 1) + 43) ≤ R.locals; omega) (by omega) (by omega) hlk ?_ (fun z q => M.2.1.2.2 z q) (by omega) (by omega)
  · exact vx_hat (fun w hw => hts w (t5 w hw)) t6 (fun w hw => va_Nw.use (jw_nest_on (List.mem_filter.mp hw).2) (hZ.2.2.2.1 w hw))
  · intro t hal hz hq
    refine ⟨hr, κ, tys, σ, M.2.2.1.2, ?_, ?_⟩
    · rw [hf']
      refine ⟨M.1.1.moved hal, M.1.2.1.kept (fun k q hk => hq _ (M.1.2.1 k q hk).lt), M.1.2.2⟩
    · exact ⟨Nat.le_trans M.2.1.1 hz, fun q q1 q2 => (hq q (Nat.lt_of_lt_of_le q1 M.2.1.1)).trans (M.2.1.2.1 q q1 q2)⟩
/-- a contract out of a walk of the body -/
theorem jw_con {y : MethodName} {cc : ByteArray} {mL : Nat} {ret : Option FieldType} {d : Nat} {as : List Value} {h h' : jw_H} {r : Option Value ⊕ String} {L0 : List (Option Value)} (ini : Bool) (hy : plainFor y = true) (hini : ini = true → y.name = "<init>") (hL0 : jw_ent as mL = L0) (hl : (jw_sl0 as).length ≤ mL)
    (hE : jw_E d (y.cls, cc, mL, ini, ret, some [], none) h 0 L0 [] h r h') : jw_Con (.code y cc mL ret) y d as h r h' := by
  subst hL0
  refine ⟨hE.1, hE.2.1, hE.2.2.1, ?_⟩
  intro l hfl D κ tys σ b Ls xs sz ho
  refine jw_ofW hy rfl ?_
  intro p e s m args below meth c s₁ B hml htab hP
  obtain ⟨rfl, hsz, hR, hZ⟩ := hP
  have hts : ∀ w ∈ (Cond.code y cc mL ret :: jw_T), w.before (as.map (jw_v σ b)).toArray s = true := atoms_spec B.pre
  rw [lg_entry_eq]
  have hnm : meth.name = y.name := (name_of_methodNamed B.named B.method).1
  have hC : jw_C p l e (headSpec (Cond.code y cc mL ret :: jw_T) { frames := d, cells := jw_c h' - jw_c h, slots := jw_s h' - jw_s h, locals := d * 300 }).room s m (as.map (jw_v σ b)).toArray meth c d (y.cls, cc, mL, ini, ret, some [], none) h h' b Ls xs (jw_A σ (jw_n h) sz) := by
    refine ⟨B.exec, B.bytes, hml, findClass_of_methodNamed B.named, fun w hw => hts w (List.mem_cons_of_mem _ hw), hfl, hZ, Nat.le_refl _, Nat.le_refl _, ?_, ?_, fun q hq => Or.inr (by rw [← hsz]; exact hq), fun q => hnm.trans (hini q), ?_, fun q z => nomatch z⟩
    · show jw_c h' ≤ (jw_c h' - jw_c h) + jw_c h
      omega
    · show jw_s h' ≤ (jw_s h' - jw_s h) + jw_s h
      omega
    · intro q hq
      cases hq
      show c.exceptionTable.toList = []
      exact List.eq_nil_iff_forall_not_mem.mpr fun x hx => htab x hx
  refine hE.2.2.2 p l e _ s m _ below meth c b Ls xs D (jw_A σ (jw_n h) sz) _ σ hC ?_ ?_ κ tys σ s.heap [] 0 0 _ ⟨hR, va_S.rf, ⟨Nat.le_refl _, fun _ _ => rfl⟩, ⟨Nat.zero_add _, Nat.zero_add _⟩, jw_entry hl ho⟩ (fun w hw => by cases hw)
  · exact jw_end B.exec B.bytes B.returns B.notSynchronized hsz
  · exact jw_endX hC B.notSynchronized
/-- the same of a body with handlers -/
theorem jw_conW {y : MethodName} {cc : ByteArray} {mL : Nat} {ret : Option FieldType} {hh : List (Nat × Nat × Nat × Nat)} {d : Nat} {as : List Value} {h h' : jw_H} {r : Option Value ⊕ String} {L0 : List (Option Value)} (hy : plainName y.cls = true) (hL0 : jw_ent as mL = L0) (hl : (jw_sl0 as).length ≤ mL) 
    (hE : jw_E d (y.cls, cc, mL, false, ret, some hh, none) h 0 L0 [] h r h') : jw_Con (.codeWith y cc mL ret hh) y d as h r h' := by
  subst hL0
  refine ⟨hE.1, hE.2.1, hE.2.2.1, ?_⟩
  intro l hfl D κ tys σ b Ls xs sz ho
  refine vx_ofWH hy rfl ?_
  intro p e s m args below meth c s₁ B hml hP
  obtain ⟨rfl, hsz, hR, hZ⟩ := hP
  have hts : ∀ w ∈ (Cond.codeWith y cc mL ret hh :: jw_T), w.before (as.map (jw_v σ b)).toArray s = true := atoms_spec B.pre
  rw [lg_entry_eq]
  have hC : jw_C p l e (headSpec (Cond.codeWith y cc mL ret hh :: jw_T) { frames := d, cells := jw_c h' - jw_c h, slots := jw_s h' - jw_s h, locals := d * 300 }).room s m (as.map (jw_v σ b)).toArray meth c d (y.cls, cc, mL, false, ret, some hh, none) h h' b Ls xs (jw_A σ (jw_n h) sz) := by
    refine ⟨B.exec, B.bytes, hml, findClass_of_methodNamed B.named, fun w hw => hts w (List.mem_cons_of_mem _ hw), hfl, hZ, Nat.le_refl _, Nat.le_refl _, ?_, ?_, (fun q hq => Or.inr (by rw [← hsz]; exact hq)), (fun q => nomatch q), (fun q hq => by cases hq; exact vx_table (x := y) B (hts _ List.mem_cons_self)), (fun q z => nomatch z)⟩
    · show jw_c h' ≤ (jw_c h' - jw_c h) + jw_c h
      omega
    · show jw_s h' ≤ (jw_s h' - jw_s h) + jw_s h
      omega
  refine hE.2.2.2 p l e _ s m _ below meth c b Ls xs D (jw_A σ (jw_n h) sz) _ σ hC ?_ ?_ κ tys σ s.heap [] 0 0 _ ⟨hR, va_S.rf, ⟨Nat.le_refl _, fun _ _ => rfl⟩, ⟨Nat.zero_add _, Nat.zero_add _⟩, jw_entry hl ho⟩ (fun w hw => by cases hw)
  · exact jw_end B.exec B.bytes B.returns B.notSynchronized hsz
  · exact jw_endX hC B.notSynchronized
/-- a call that throws, and its catching: the machine goes on at the handler, which keeps what was thrown in a local that is never read -/
theorem jw_runX {p : Program} {l : Launch} {e : Env} {R : Room} {s : State} {m : MethodId} {args : Array Value} {below : List Frame} {meth : Method} {c : Code} {Q : State → Prop} {D : va_G} {A : Nat → Prop} {b mL : Nat} {σ0 : Nat → Nat} {hi : jw_H} {κ : Nat → ClassId} {tys : List (ClassId × FieldType)} {σ : Nat → Nat} {L : List (Option Value)} {h h1 : jw_H} {Hm : Heap} {locs : List Loc} {cells slots : Nat} {ls : Array Slot}
    {E : String} {rest : List Value} {a : Array Value} {pc : Nat} {st0 : List Value}
    (run : vx_Run p l e R s m args below meth c Hm locs cells slots (jw_c h1 - jw_c h) (jw_s h1 - jw_s h) (F0 m pc ls st0) rest (jw_Qc D σ b Hm.size h (.inr E) h1 a) (jw_XC D σ Hm.size h (.inr E) h1) (jw_A σ (jw_n h) Hm.size))
    (M : jw_M D A b mL σ0 hi s κ tys σ L h Hm locs cells slots ls) (hA : ∀ q, s.heap.size ≤ q → A q) (hn : jw_n h ≤ jw_n h1 ∧ jw_c h ≤ jw_c h1 ∧ jw_s h ≤ jw_s h1)
    (kk : ∀ (κ' : Nat → ClassId) (tys' : List (ClassId × FieldType)) (σ' : Nat → Nat) (H1 : Heap) (locs1 : List Loc) (q : Addr) (ce : Cell), jw_M D A b mL σ0 hi s κ' tys' σ' L h1 H1 locs1 (cells + (jw_c h1 - jw_c h)) (slots + (jw_s h1 - jw_s h)) ls → H1[q]? = some ce → ce.vm = .none → s.vm.findClass E = some ce.cls →
      vx_W p l e R s m args below meth c H1 locs1 (cells + (jw_c h1 - jw_c h)) (slots + (jw_s h1 - jw_s h)) Q (F0 m pc ls rest) q) : W p l e R s m args below meth c Hm locs cells slots Q (F0 m pc ls st0) := by
  intro T hT X
  have hAA := jw_AA M.1 M.2.1.1 hA
  rcases run T hT X with ⟨v', st₀, t, T', L', h0, X', hL, e1, e2, ⟨κ', tys', σ', v2, q1, q2, q3, q4, q5, q6⟩, st⟩ | ⟨q, st₀, t, T', L', E', ce, h0, X', hL, e1, e2, ⟨hx, κ', tys', σ', q1, q5, q6⟩, hce, hcv, hcl, st⟩
  · cases q2
  · cases hx
    obtain ⟨k1, k2, k3⟩ := vx_keep h0 e1 M.2.1 (fun q _ h2 => hAA q h2) hAA hL q6
    have hal : t.vm.Alike s.vm := by
      have h9 : s.vm.Alike T'.vm := X'.warmed.alike
      rw [e2] at h9
      exact h9.symm
    have M' : jw_M D A b mL σ0 hi s κ' tys' σ' L h1 T'.heap (locs ++ L') (cells + (jw_c h1 - jw_c h)) (slots + (jw_s h1 - jw_s h)) ls := by
      refine ⟨⟨q5.1.moved hal, by rw [e1]; exact q5.2.1, q5.2.2.1.weaken (fun k q hk hq => hAA _ hq), q5.2.2.2⟩, k3, ⟨Nat.le_trans M.2.2.1.1 hn.1, fun k hk => (q1 k (Nat.lt_of_lt_of_le hk M.2.2.1.1)).trans (M.2.2.1.2 k hk)⟩, ⟨?_, ?_⟩, M.2.2.2.2.up q1 hn.1⟩
      · have := M.2.2.2.1.1; omega
      · have := M.2.2.2.1.2; omega
    obtain ⟨t2, a1, b1⟩ := kk κ' tys' σ' T'.heap (locs ++ L') q ce M' (by rw [e1]; exact hce) hcv hcl T' rfl X'
    exact ⟨t2, st.trans a1, b1⟩
section JWX
variable {d : Nat} {u : jw_U} {hi : jw_H} {pc : Nat} {L : List (Option Value)} {S : List Value} {h : jw_H} {r : Option Value ⊕ String} {hf : jw_H}
variable {idx d' n maxL : Nat} {y : MethodName} {bytes : ByteArray} {ret : Option FieldType} {As S0 : List Value} {h1 : jw_H}
theorem jw_callX {c9 a n2 len : Nat} {E name : String} {pre suf : List ExceptionTableEntry} {x : ExceptionTableEntry} {L' : List (Option Value)} (hd : decode u.2.1 pc = .ok (.invokevirtual idx, 3)) (hm : jw_mt y bytes maxL ret n) (hin : Cond.instanceMethod y ∈ jw_T) (hse : Cond.selects y.cls y y ∈ jw_T) (hl : jw_lk u.1 idx y) (hcon : jw_Con (Cond.code y bytes maxL ret) y d' (.ref a :: As) h (.inr E) h1) (hrc : (jw_t h a).1 = c9) (hc9 : c9 < 12) (hyc : y.cls = jw_cn c9) (hn : As.length = n) (hd' : d' + 1 ≤ d) (hcat : (S.map fun v => v.category).sum ≤ 8) (hS0 : S0 = As.reverse ++ .ref a :: S)
    {tb : List (Nat × Nat × Nat × Nat)} (hut : u.2.2.2.2.2.1 = some tb) (htb : tableOf tb = pre ++ x :: suf) (hpass : ∀ z ∈ pre, covers z pc = false ∨ (z.catchType ≠ 0 ∧ ∃ nm : String, Cond.classLink u.1 z.catchType nm ∈ jw_T ∧ (E, nm) ∈ jw_Nc)) (hx : covers x pc = true) (h0 : x.catchType ≠ 0) (hlink : Cond.classLink u.1 x.catchType name ∈ jw_T) (hcast : Cond.castable E name ∈ jw_Nb)
    (hst : (∃ k : Fin 4, (k : Nat) = n2 ∧ len = 1 ∧ decode u.2.1 x.handlerPc = .ok (.astore_n k, 1)) ∨ (len = 2 ∧ decode u.2.1 x.handlerPc = .ok (.astore n2, 2))) (hn2 : n2 < u.2.2.1) (hL : (jw_clr L n2).set n2 none = L')
    (k : jw_E d u hi (x.handlerPc + len) L' [] h1 r hf) : jw_E d u hi pc L S0 h r hf := by
  subst hS0
  subst hL
  refine ⟨Nat.le_trans hcon.1 k.1, Nat.le_trans hcon.2.1 k.2.1, Nat.le_trans hcon.2.2.1 k.2.2.1, ?_⟩
  intro p l e R s m args below meth c b Ls xs D A Q σ0 hC hT hX κ tys σ Hm locs cells slots ls M hs
  have hsA : jw_okS (jw_n h) (.ref a :: As) := fun w hw => hs w ((List.mem_cons.mp hw).elim (fun q => q ▸ List.mem_append_right _ List.mem_cons_self) (fun q => List.mem_append_left _ (List.mem_reverse.mpr q)))
  have ha : a < jw_n h := hsA.hd a rfl
  have hMet := hcon.2.2.2 l hC.2.2.2.2.2.1 D κ tys σ b Ls xs Hm.size hsA
  have hcells : cells + (jw_c h1 - jw_c h) ≤ R.cells ∧ slots + (jw_s h1 - jw_s h) ≤ R.slots := by
    have a1 := hC.2.2.2.2.2.2.2.2.2.1
    have a2 := hC.2.2.2.2.2.2.2.2.2.2.1
    have a3 := M.2.2.2.1.1
    have a4 := M.2.2.2.1.2
    have a5 := k.2.1
    have a6 := k.2.2.1
    have a7 := hcon.2.1
    have a8 := hcon.2.2.1
    omega
  have hroom : d' + 1 ≤ R.frames ∧ 8 + (maxL + 11) + d' * 300 ≤ R.locals := by
    have a1 := hC.2.2.2.2.2.2.2.1
    have a2 := hC.2.2.2.2.2.2.2.2.1
    have a3 := hm.2.2.2
    have a4 : (d' + 1) * 300 ≤ d * 300 := Nat.mul_le_mul_right _ hd'
    omega
  have hls : ls.size = u.2.2.1 := M.2.2.2.2.1
  have hW : 2 * (F0 m pc ls ((As.reverse ++ .ref a :: S).map (jw_v σ b))).monitorRoom + ((S.map (jw_v σ b)).map fun v => v.category).sum ≤ 8 := by
    rw [jw_cats]; show 2 * 0 + _ ≤ 8; omega
  have hstk : (As.reverse ++ Value.ref a :: S).map (jw_v σ b) = (As.map (jw_v σ b)).reverse ++ .ref (σ a) :: S.map (jw_v σ b) := by rw [List.map_append, List.map_reverse]; rfl
  have he : (jw_ws κ σ h)[a]? = some (σ a, .inr (c9, (List.range (jw_nf c9)).map (jw_fv σ h a c9))) := by rw [jw_ws_get ha, jw_cell_o hrc (by omega)]
  have hcell := va_recv (q := (jw_cn c9, jw_TX c9, jw_nf c9)) M.1.1 M.1.2.1 (jw_cl hc9) he
  have hp : PreV s Hm y.cls (σ a) (jw_Pc D κ tys σ b Ls xs Hm.size (.ref a :: As) h) (As.map (jw_v σ b)) := ⟨jw_Pc.blind, by rw [hyc]; exact hcell, jw_pre M hC.2.2.2.2.2.2.1 hC.2.2.2.2.2.2.2.2.2.2.2.1 (.ref a :: As)⟩
  have fx : CallFix p m c u.2.1 u.2.2.1 s args jw_T u.1 := ⟨hC.1, hC.2.1, hC.2.2.1, hC.2.2.2.1, hC.2.2.2.2.1⟩
  have hZ := hC.2.2.2.2.2.2.1
  have kk : ∀ (κ' : Nat → ClassId) (tys' : List (ClassId × FieldType)) (σ' : Nat → Nat) (H1 : Heap) (locs1 : List Loc) (q : Addr) (ce : Cell), jw_M D A b u.2.2.1 σ0 hi s κ' tys' σ' L h1 H1 locs1 (cells + (jw_c h1 - jw_c h)) (slots + (jw_s h1 - jw_s h)) ls → H1[q]? = some ce → ce.vm = .none → s.vm.findClass E = some ce.cls →
      vx_W p l e R s m args below meth c H1 locs1 (cells + (jw_c h1 - jw_c h)) (slots + (jw_s h1 - jw_s h)) Q (F0 m pc ls (S.map (jw_v σ b))) q := by
    intro κ' tys' σ' H1 locs1 q ce M' h2 h3 h4
    refine vx_catch hC.2.2.2.1 pre x suf ((hC.2.2.2.2.2.2.2.2.2.2.2.2.2.1 _ hut).trans htb) (fun z hz => ?_) hx h0 (hC.2.2.2.2.1 _ hlink) (va_Nw.use rfl (hZ.2.2.2.1 _ hcast)) h2 h3 h4 ?_
    · rcases hpass z hz with h5 | ⟨h5, nm, h6, h7⟩
      · exact Or.inl h5
      · exact Or.inr ⟨h5, nm, hC.2.2.2.2.1 _ h6, hZ.2.2.2.2.2.2.2.2.2.2.2 _ h7⟩
    · have go : ∀ ls' : Array Slot, lv_has ls' u.2.2.1 ((n2, Value.ref q) :: (jw_lst σ' b L).filter (fun q => !(q.1 == n2) && !(q.1 + 1 == n2 && q.2.category == 2))) → W p l e R s m args below meth c H1 locs1 (cells + (jw_c h1 - jw_c h)) (slots + (jw_s h1 - jw_s h)) Q (F0 m (x.handlerPc + len) ls' []) := fun ls' hl' =>
        k.2.2.2 p l e R s m args below meth c b Ls xs D A Q σ0 hC hT hX κ' tys' σ' H1 locs1 (cells + (jw_c h1 - jw_c h)) (slots + (jw_s h1 - jw_s h)) ls' ⟨M'.1, M'.2.1, M'.2.2.1, M'.2.2.2.1, jw_Lo.stN (z := .ref q) rfl M'.2.2.2.2.2.2.1 hn2 (fun j w hw => (M'.2.2.2.2.2.2.2 j w hw).2) hl'⟩ (fun w hw => by cases hw)
      rcases hst with ⟨k4, rfl, rfl, hdec⟩ | ⟨rfl, hdec⟩
      · exact lv_astore_n hC.1 hC.2.1 hdec rfl M'.2.2.2.2.has hn2 rfl go
      · exact lv_astore hC.1 hC.2.1 hdec M'.2.2.2.2.has hn2 rfl go
  rcases hl with hl | ⟨host, hl⟩
  · exact jw_runX (vx_runV fx hMet ⟨callB_of n hC.2.2.2.2.1 (jw_goodC hm.1) rfl rfl rfl (hC.2.2.2.2.1 _ hm.2.1) (hC.2.2.2.2.1 _ hl) hm.2.2.1 hroom, hC.2.2.2.2.1 _ hin, hC.2.2.2.2.1 _ hse⟩ hp rfl (by rw [List.length_map]; exact hn) hls hstk hW hd hcells) M hC.2.2.2.2.2.2.2.2.2.2.2.1 ⟨hcon.1, hcon.2.1, hcon.2.2.1⟩ kk
  · exact jw_runX (vx_runVN fx hMet ⟨va_cnB n hC.2.2.2.2.1 (jw_goodC hm.1) rfl rfl rfl (hC.2.2.2.2.2.2.1.2.2.2.1 _ hl) (hC.2.2.2.2.1 _ hm.2.1) hm.2.2.1 hroom, hC.2.2.2.2.1 _ hin, hC.2.2.2.2.1 _ hse⟩ hp rfl (by rw [List.length_map]; exact hn) hls hstk hW hd hcells) M hC.2.2.2.2.2.2.2.2.2.2.2.1 ⟨hcon.1, hcon.2.1, hcon.2.2.1⟩ kk
def jw_mtW (y : MethodName) (bytes : ByteArray) (maxL : Nat) (ret : Option FieldType) (hh : List (Nat × Nat × Nat × Nat)) (n : Nat) : Prop :=
  Cond.codeWith y bytes maxL ret hh ∈ jw_T ∧ Cond.initialized y.cls ∈ jw_T ∧ (y.cls ≠ "java/lang/invoke/MethodHandle" ∧ y.cls ≠ "java/lang/invoke/VarHandle" ∧ (parseMethodDescriptor y.desc).map (fun d => d.parameters.length) = some n) ∧ maxL ≤ 200
theorem jw_callSW {hh : List (Nat × Nat × Nat × Nat)} {v : Option Value} (hd : decode u.2.1 pc = .ok (.invokestatic idx, 3)) (hm : jw_mtW y bytes maxL ret hh n) (hst : Cond.static y ∈ jw_T) (hl : Cond.methodLink u.1 idx y ∈ jw_T) (hcon : jw_Con (Cond.codeWith y bytes maxL ret hh) y d' As h (.inl v) h1) (hn : As.length = n) (hd' : d' + 1 ≤ d) (hcat : (S.map fun v => v.category).sum ≤ 8) (hS0 : S0 = As.reverse ++ S)
    (k : jw_E d u hi (pc + 3) L (v.toList ++ S) h1 r hf) : jw_E d u hi pc L S0 h r hf := by
  subst hS0
  refine ⟨Nat.le_trans hcon.1 k.1, Nat.le_trans hcon.2.1 k.2.1, Nat.le_trans hcon.2.2.1 k.2.2.1, ?_⟩
  intro p l e R s m args below meth c b Ls xs D A Q σ0 hC hT hX κ tys σ Hm locs cells slots ls M hs
  have hsA : jw_okS (jw_n h) As := fun w hw => hs w (List.mem_append_left _ (List.mem_reverse.mpr hw))
  have hsS : jw_okS (jw_n h) S := fun w hw => hs w (List.mem_append_right _ hw)
  have hMet := hcon.2.2.2 l hC.2.2.2.2.2.1 D κ tys σ b Ls xs Hm.size hsA
  have hcells : cells + (jw_c h1 - jw_c h) ≤ R.cells ∧ slots + (jw_s h1 - jw_s h) ≤ R.slots := by
    have a1 := hC.2.2.2.2.2.2.2.2.2.1
    have a2 := hC.2.2.2.2.2.2.2.2.2.2.1
    have a3 := M.2.2.2.1.1
    have a4 := M.2.2.2.1.2
    have a5 := k.2.1
    have a6 := k.2.2.1
    have a7 := hcon.2.1
    have a8 := hcon.2.2.1
    omega
  have hroom : d' + 1 ≤ R.frames ∧ 8 + (maxL + 11) + d' * 300 ≤ R.locals := by
    have a1 := hC.2.2.2.2.2.2.2.1
    have a2 := hC.2.2.2.2.2.2.2.2.1
    have a3 := hm.2.2.2
    have a4 : (d' + 1) * 300 ≤ d * 300 := Nat.mul_le_mul_right _ hd'
    omega
  have hls : ls.size = u.2.2.1 := M.2.2.2.2.1
  have hW : 2 * (F0 m pc ls ((As.reverse ++ S).map (jw_v σ b))).monitorRoom + ((S.map (jw_v σ b)).map fun v => v.category).sum ≤ 8 := by
    rw [jw_cats]; show 2 * 0 + _ ≤ 8; omega
  have hstk : (As.reverse ++ S).map (jw_v σ b) = (As.map (jw_v σ b)).reverse ++ S.map (jw_v σ b) := by rw [List.map_append, List.map_reverse]
  have hp : PreS s Hm (jw_Pc D κ tys σ b Ls xs Hm.size As h) (As.map (jw_v σ b)) := ⟨jw_Pc.blind, jw_pre M hC.2.2.2.2.2.2.1 hC.2.2.2.2.2.2.2.2.2.2.2.1 As⟩
  have fx : CallFix p m c u.2.1 u.2.2.1 s args jw_T u.1 := ⟨hC.1, hC.2.1, hC.2.2.1, hC.2.2.2.1, hC.2.2.2.2.1⟩
  have kk := fun κ' tys' σ' H1 locs1 M' hS' => k.2.2.2 p l e R s m args below meth c b Ls xs D A Q σ0 hC hT hX κ' tys' σ' H1 locs1 (cells + (jw_c h1 - jw_c h)) (slots + (jw_s h1 - jw_s h)) ls M' hS'
  have hG : GoodIn jw_T (va_wsS u.1 idx y (Cond.codeWith y bytes maxL ret hh :: jw_T)) := jw_good fun z hz => by
    unfold va_wsS at hz
    rcases List.mem_append.mp hz with hz | hz
    · rcases List.mem_cons.mp hz with rfl | hz
      · exact hl
      rcases List.mem_cons.mp hz with rfl | hz
      · exact hst
      rcases List.mem_cons.mp hz with rfl | hz
      · exact hm.2.1
      · cases hz
    · rcases List.mem_cons.mp hz with rfl | hz
      · exact hm.1
      · exact hz
  exact jw_run (vx_runSX fx hMet (vx_cwSW n hC.2.2.2.2.1 hG rfl rfl rfl hm.2.2.1 hroom) hp rfl (by rw [List.length_map]; exact hn) hls hstk hW hd hcells) M hC.2.2.2.2.2.2.2.2.2.2.2.1 ⟨hcon.1, hcon.2.1, hcon.2.2.1⟩ hsS kk
end JWX
