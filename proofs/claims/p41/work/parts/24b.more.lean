/-! more instructions, calls of a method that is given the script, calls that may throw where nothing catches -/
section
variable {d : Nat} {u : jw_U} {hi : jw_H} {pc : Nat} {L : List (Option Value)} {S : List Value} {h : jw_H} {r : Option Value ⊕ String} {hf : jw_H}
theorem jw_lmul {x y : Int64} (hd : decode u.2.1 pc = .ok (.lmul, 1)) (k : jw_E d u hi (pc + 1) L (.long (x * y) :: S) h r hf) : jw_E d u hi pc L (.long y :: .long x :: S) h r hf := by
  refine ⟨k.1, k.2.1, k.2.2.1, ?_⟩
  intro p l e R s m args below meth c b Ls xs D A Q σ0 hC hT hX κ tys σ Hm locs cells slots ls M hs
  exact lv_lmul hC.1 hC.2.1 hd (k.2.2.2 p l e R s m args below meth c b Ls xs D A Q σ0 hC hT hX κ tys σ Hm locs cells slots ls M (jw_okS.cons jw_ok_long hs.tl.tl))
theorem jw_ladd {x y : Int64} (hd : decode u.2.1 pc = .ok (.ladd, 1)) (k : jw_E d u hi (pc + 1) L (.long (x + y) :: S) h r hf) : jw_E d u hi pc L (.long y :: .long x :: S) h r hf := by
  refine ⟨k.1, k.2.1, k.2.2.1, ?_⟩
  intro p l e R s m args below meth c b Ls xs D A Q σ0 hC hT hX κ tys σ Hm locs cells slots ls M hs
  exact lv_ladd hC.1 hC.2.1 hd (k.2.2.2 p l e R s m args below meth c b Ls xs D A Q σ0 hC hT hX κ tys σ Hm locs cells slots ls M (jw_okS.cons jw_ok_long hs.tl.tl))
theorem jw_lshr {x : Int64} {y : Int32} (hd : decode u.2.1 pc = .ok (.lshr, 1)) (k : jw_E d u hi (pc + 1) L (.long (x >>> (y.toInt64 &&& 63)) :: S) h r hf) : jw_E d u hi pc L (.int y :: .long x :: S) h r hf := by
  refine ⟨k.1, k.2.1, k.2.2.1, ?_⟩
  intro p l e R s m args below meth c b Ls xs D A Q σ0 hC hT hX κ tys σ Hm locs cells slots ls M hs
  exact lv_lshr hC.1 hC.2.1 hd rfl (k.2.2.2 p l e R s m args below meth c b Ls xs D A Q σ0 hC hT hX κ tys σ Hm locs cells slots ls M (jw_okS.cons jw_ok_long hs.tl.tl))
end
def jw_iw {α : Type} (w : Int32 ⊕ String) (f : Int32 → Option α) : Option α := match w with
  | .inl v => f v
  | .inr _ => none
theorem jw_iw_l {α : Type} {v : Int32} {f : Int32 → Option α} {q : α} (e : jw_iw (.inl v) f = some q) : f v = some q := e
/-- the contract of a method that is given the script -/
def jw_ConL (Ls : Nat) (xs : Nat → Int32) (wd : Cond) (y : MethodName) (d : Nat) (as : List Value) (h : jw_H) (r : Option Value ⊕ String) (h' : jw_H) : Prop :=
  jw_n h ≤ jw_n h' ∧ jw_c h ≤ jw_c h' ∧ jw_s h ≤ jw_s h' ∧
  ∀ (l : Launch), l.flags = flags0 → ∀ (D : va_G) (κ : Nat → ClassId) (tys : List (ClassId × FieldType)) (σ : Nat → Nat) (b : Nat) (sz : Nat), jw_okS (jw_n h) as →
    vx_Met l y (wd :: jw_T) { frames := d, cells := jw_c h' - jw_c h, slots := jw_s h' - jw_s h, locals := d * 300 } (jw_Pc D κ tys σ b Ls xs sz as h) (jw_Qc D σ b sz h r h') (jw_XC D σ sz h r h') (jw_c h' - jw_c h) (jw_s h' - jw_s h) (jw_A σ (jw_n h) sz)
section
variable {d : Nat} {u : jw_U} {hi : jw_H} {pc : Nat} {L : List (Option Value)} {S : List Value} {h : jw_H} {r : Option Value ⊕ String} {hf : jw_H}
variable {idx d' n maxL : Nat} {y : MethodName} {bytes : ByteArray} {ret : Option FieldType} {As S0 : List Value} {v : Option Value} {h1 : jw_H}
theorem jw_callSL {Ls0 : Nat} {xs0 : Nat → Int32} (hu : u.2.2.2.2.2.2 = some (Ls0, xs0)) (hd : decode u.2.1 pc = .ok (.invokestatic idx, 3)) (hm : jw_mt y bytes maxL ret n) (hst : Cond.static y ∈ jw_T) (hl : jw_lk u.1 idx y) (hcon : jw_ConL Ls0 xs0 (Cond.code y bytes maxL ret) y d' As h (.inl v) h1) (hn : As.length = n) (hd' : d' + 1 ≤ d) (hcat : (S.map fun v => v.category).sum ≤ 8) (hS0 : S0 = As.reverse ++ S)
    (k : jw_E d u hi (pc + 3) L (v.toList ++ S) h1 r hf) : jw_E d u hi pc L S0 h r hf := by
  subst hS0
  refine ⟨Nat.le_trans hcon.1 k.1, Nat.le_trans hcon.2.1 k.2.1, Nat.le_trans hcon.2.2.1 k.2.2.1, ?_⟩
  intro p l e R s m args below meth c b Ls xs D A Q σ0 hC hT hX κ tys σ Hm locs cells slots ls M hs
  have hsA : jw_okS (jw_n h) As := fun w hw => hs w (List.mem_append_left _ (List.mem_reverse.mpr hw))
  have hsS : jw_okS (jw_n h) S := fun w hw => hs w (List.mem_append_right _ hw)
  obtain ⟨eL, ex⟩ := hC.2.2.2.2.2.2.2.2.2.2.2.2.2.2 _ hu
  subst eL
  subst ex
  have hMet := hcon.2.2.2 l hC.2.2.2.2.2.1 D κ tys σ b Hm.size hsA
  have hcells : cells + (jw_c h1 - jw_c h) ≤ R.cells ∧ slots + (jw_s h1 - jw_s h) ≤ R.slots := by
    have a1 := hC.2.2.2.2.2.2.2.2.2.1
    have a2 := hC.2.2.2.2.2.2.2.2.2.2.1
    have a3 := M.2.2.2.1.1
    have a4 := M.2.2.2.1.2
    have a5 := k.2.1
    have a6 := k.2.2.1
    have a7 := hcon.2.1
    have a8 := hcon.2.2.1
    omega
  have hroom : d' + 1 ≤ R.frames ∧ 8 + (maxL + 11) + d' * 300 ≤ R.locals := by
    have a1 := hC.2.2.2.2.2.2.2.1
    have a2 := hC.2.2.2.2.2.2.2.2.1
    have a3 := hm.2.2.2
    have a4 : (d' + 1) * 300 ≤ d * 300 := Nat.mul_le_mul_right _ hd'
    omega
  have hls : ls.size = u.2.2.1 := M.2.2.2.2.1
  have hW : 2 * (F0 m pc ls ((As.reverse ++ S).map (jw_v σ b))).monitorRoom + ((S.map (jw_v σ b)).map fun v => v.category).sum ≤ 8 := by
    rw [jw_cats]; show 2 * 0 + _ ≤ 8; omega
  have hstk : (As.reverse ++ S).map (jw_v σ b) = (As.map (jw_v σ b)).reverse ++ S.map (jw_v σ b) := by rw [List.map_append, List.map_reverse]
  have hp : PreS s Hm (jw_Pc D κ tys σ b Ls xs Hm.size As h) (As.map (jw_v σ b)) := ⟨jw_Pc.blind, jw_pre M hC.2.2.2.2.2.2.1 hC.2.2.2.2.2.2.2.2.2.2.2.1 As⟩
  have fx : CallFix p m c u.2.1 u.2.2.1 s args jw_T u.1 := ⟨hC.1, hC.2.1, hC.2.2.1, hC.2.2.2.1, hC.2.2.2.2.1⟩
  have kk := fun κ' tys' σ' H1 locs1 M' hS' => k.2.2.2 p l e R s m args below meth c b Ls xs D A Q σ0 hC hT hX κ' tys' σ' H1 locs1 (cells + (jw_c h1 - jw_c h)) (slots + (jw_s h1 - jw_s h)) ls M' hS'
  rcases hl with hl | ⟨host, hl⟩
  · exact jw_run (vx_runS fx hMet ⟨callB_of n hC.2.2.2.2.1 (jw_goodC hm.1) rfl rfl rfl (hC.2.2.2.2.1 _ hm.2.1) (hC.2.2.2.2.1 _ hl) hm.2.2.1 hroom, hC.2.2.2.2.1 _ hst⟩ hp rfl (by rw [List.length_map]; exact hn) hls hstk hW hd hcells) M hC.2.2.2.2.2.2.2.2.2.2.2.1 ⟨hcon.1, hcon.2.1, hcon.2.2.1⟩ hsS kk
  · exact jw_run (vx_runSN fx hMet ⟨va_cnB n hC.2.2.2.2.1 (jw_goodC hm.1) rfl rfl rfl (hC.2.2.2.2.2.2.1.2.2.2.1 _ hl) (hC.2.2.2.2.1 _ hm.2.1) hm.2.2.1 hroom, hC.2.2.2.2.1 _ hst, trivial⟩ hp rfl (by rw [List.length_map]; exact hn) hls hstk hW hd hcells) M hC.2.2.2.2.2.2.2.2.2.2.2.1 ⟨hcon.1, hcon.2.1, hcon.2.2.1⟩ hsS kk
end
theorem jw_conL {Ls : Nat} {xs : Nat → Int32} {y : MethodName} {cc : ByteArray} {mL : Nat} {ret : Option FieldType} {d : Nat} {as : List Value} {h h' : jw_H} {r : Option Value ⊕ String} {L0 : List (Option Value)} (hy : plainFor y = true) (hL0 : jw_ent as mL = L0) (hl : (jw_sl0 as).length ≤ mL)
    (hE : jw_E d (y.cls, cc, mL, false, ret, some [], some (Ls, xs)) h 0 L0 [] h r h') : jw_ConL Ls xs (.code y cc mL ret) y d as h r h' := by
  subst hL0
  refine ⟨hE.1, hE.2.1, hE.2.2.1, ?_⟩
  intro l hfl D κ tys σ b sz ho
  refine jw_ofW hy rfl ?_
  intro p e s m args below meth c s₁ B hml htab hP
  obtain ⟨rfl, hsz, hR, hZ⟩ := hP
  have hts : ∀ w ∈ (Cond.code y cc mL ret :: jw_T), w.before (as.map (jw_v σ b)).toArray s = true := atoms_spec B.pre
  rw [lg_entry_eq]
  have hnm : meth.name = y.name := (name_of_methodNamed B.named B.method).1
  have hC : jw_C p l e (headSpec (Cond.code y cc mL ret :: jw_T) { frames := d, cells := jw_c h' - jw_c h, slots := jw_s h' - jw_s h, locals := d * 300 }).room s m (as.map (jw_v σ b)).toArray meth c d (y.cls, cc, mL, false, ret, some [], some (Ls, xs)) h h' b Ls xs (jw_A σ (jw_n h) sz) := by
    refine ⟨B.exec, B.bytes, hml, findClass_of_methodNamed B.named, fun w hw => hts w (List.mem_cons_of_mem _ hw), hfl, hZ, Nat.le_refl _, Nat.le_refl _, ?_, ?_, fun q hq => Or.inr (by rw [← hsz]; exact hq), (fun q => nomatch q), ?_, fun q z => by cases z; exact ⟨rfl, rfl⟩⟩
    · show jw_c h' ≤ (jw_c h' - jw_c h) + jw_c h
      omega
    · show jw_s h' ≤ (jw_s h' - jw_s h) + jw_s h
      omega
    · intro q hq
      cases hq
      show c.exceptionTable.toList = []
      exact List.eq_nil_iff_forall_not_mem.mpr fun x hx => htab x hx
  refine hE.2.2.2 p l e _ s m _ below meth c b Ls xs D (jw_A σ (jw_n h) sz) _ σ hC ?_ ?_ κ tys σ s.heap [] 0 0 _ ⟨hR, va_S.rf, ⟨Nat.le_refl _, fun _ _ => rfl⟩, ⟨Nat.zero_add _, Nat.zero_add _⟩, jw_entry hl ho⟩ (fun w hw => by cases hw)
  · exact jw_end B.exec B.bytes B.returns B.notSynchronized hsz
  · exact jw_endX hC B.notSynchronized
