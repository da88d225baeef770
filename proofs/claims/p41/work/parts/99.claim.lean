/-! THE CLAIM OUT OF ONE WALK OF THE LAW'S BODY. Your part is whole_start (and what it stands on); all else here is the same for every law, but numbers. -/
def R_law : String := "LineordersLaw"
def lw_P (b : Addr) (xs : List Int32) (args : Array Value) (s : State) : Prop := args = #[.ref b] ∧ s.IntsAt b xs ∧ xs.length ≤ 260 ∧ (Jvm.Cond.and given_1 narrow_1).before args s = true
def lw_Q (_ : Array Value) (s : State) (o : Outcome) (t : State) : Prop := o = .returned (some (.int 1)) ∧ Framed s o t [] 600130 7301079
def lw_Z (below : List Frame) (a : Array Value) (s : State) : State → Prop := fun t => ∃ o, t.status = .running ∧ Ended t below o ∧ lw_Q a s o t
/-- the law's own end, with 1 on the stack, nothing written that was there before, its room as the claim has it -/
theorem lw_ret {p : Program} {l : Launch} {e : Env} {s : State} {m : MethodId} {below : List Frame} {meth : Method} {c : Code} {b : Nat} (hx : p.tables.exec = Jvm.exec) (hb : c.code = code) (hr : meth.sig.returnType = ret) (hlocks : meth.locks = false) {pc : Nat} {H : Heap} {ls : Array Slot} (hdg : decode code pc = .ok (.ireturn, 1)) : W p l e room_1 s m #[Value.ref b] below meth c H [] 600130 7301079 (lw_Z below #[Value.ref b] s) (F0 m pc ls [.int 1]) := by
  intro T hT X
  obtain ⟨fs, hret, hrun, hended, hW, hframe⟩ := X.leave (v := some (.int 1)) (hlocks := hlocks) (fun h => by rw [hr] at h; cases h)
  have hmeth' : T.vm.method? m = some meth := X.method'
  refine ⟨T.setFrames fs, ?_, .returned (some (.int 1)), hrun, hended, rfl, ⟨_, rfl⟩, hW, hframe⟩
  jvm_step X.here [X.here.top, hx, hb, hdg, hmeth', hr, ret, narrow_b1]
  (try refine ⟨rfl, ?_⟩); (try refine ⟨rfl, ?_⟩)
  first | (intro acts; rw [hret _ acts rfl rfl rfl]) | rw [hret _ _ rfl rfl rfl]
  exact Steps.refl _
/-- what holds at the law's entry: the machine, the code, the tables' words (any of lw_tbl by 'hts w (by decide +kernel)'), the script of L ints xs at the cell b, what the Statement gives of the start (any of its parts by flat_of_before) -/
def lw_At (p : Program) (s : State) (m : MethodId) (meth : Method) (c : Code) (b L : Nat) (xs : Nat → Int32) : Prop :=
  p.tables.exec = Jvm.exec ∧ c.code = code ∧ meth.sig.returnType = ret ∧ c.maxLocals = 4 ∧ s.vm.findClass R_law = some m.cls ∧ (∀ w ∈ lw_tbl, w.before #[Value.ref b] s = true) ∧ va_X b L xs s s.heap ∧ b < s.heap.size ∧ meth.locks = false ∧ (Jvm.Cond.and given_1 narrow_1).before #[Value.ref b] s = true
-- ===== YOUR PART BEGINS =====
theorem jw_strs : ∀ q ∈ jw_Sb, Cond.stringRef RX11 q.1 q.2 ∈ tables_1 := by decide +kernel
theorem jw_gv1 : Jvm.Cond.isRef (.static Bundle.tN "UNASSIGNED_STACK" Bundle.steD) ∈ flatC (Jvm.Cond.and given_1 narrow_1) := by decide +kernel
theorem jw_gv2 : Jvm.Cond.isRef (.static Bundle.tN "SUPPRESSED_SENTINEL" Bundle.listD) ∈ flatC (Jvm.Cond.and given_1 narrow_1) := by decide +kernel
theorem jw_gv3 : ∀ q ∈ jw_Nc, Jvm.Cond.not (.castable q.1 q.2) ∈ flatC (Jvm.Cond.and given_1 narrow_1) := fun q hq => by cases hq
theorem jw_gv4 : Cond.laysStatic Bundle.tN "UNASSIGNED_STACK" Bundle.steD ∈ tables_1 ∧ Cond.laysStatic Bundle.tN "SUPPRESSED_SENTINEL" Bundle.listD ∈ tables_1 ∧ Cond.initialized Bundle.tN ∈ tables_1 := by decide +kernel
theorem jw_gv5 : Cond.arrayOver (.object RX5) ∈ tables_1 ∧ Cond.arrayOver (.object RX7) ∈ tables_1 ∧ Cond.arrayOver (.object RX9) ∈ tables_1 ∧ Cond.arrayOver (.array .byte) ∈ tables_1 := by decide +kernel
theorem jw_gv6 : ∀ c, c < 12 → Cond.instantiable (jw_cn c) (jw_nf c) ∈ tables_1 := by decide +kernel
set_option maxHeartbeats 4000000 in
theorem whole_start {p : Program} {e : Env} {s : State} {m : MethodId} {below : List Frame} {meth : Method} {c : Code} (l : Launch) (hflags : l.flags = flags0) {b L : Nat} {xs : Nat → Int32} (hL : L ≤ 260) (C0 : lw_At p s m meth c b L xs) : W p l e room_1 s m #[Value.ref b] below meth c s.heap [] 0 0 (lw_Z below #[Value.ref b] s) (entryFrame m ([Value.ref b] : List Value).toArray 4) := by
  obtain ⟨hx, hc, hr, hml, hown, hts, hX, hbl, hlk, hgv⟩ := C0
  obtain ⟨h', hq, hcells, hslots⟩ := jw_pure L xs hL
  have hfl := flat_of_before _ hgv
  have htb : ∀ w ∈ tables_1, w.before #[Value.ref b] s = true := fun w hw => hts w (List.mem_append_right _ hw)
  have hJT : ∀ w ∈ jw_T, w.before #[Value.ref b] s = true := fun w hw => hts w (List.mem_filter.mp hw).1
  have hkn : ∀ c0 : Nat, ∃ (cC : ClassId) (iS : Nat → Nat), c0 < 12 → u_Kn s (jw_cn c0) (jw_TX c0) (jw_nf c0) cC iS := fun c0 => by
    by_cases hc0 : c0 < 12
    · obtain ⟨cC, iS, h⟩ := u_known (ws := jw_T) hJT (jw_in c0 hc0) (htb _ (jw_gv6 c0 hc0))
      exact ⟨cC, iS, fun _ => h⟩
    · exact ⟨0, fun _ => 0, fun z => absurd z hc0⟩
  have hA : ¬ (fun q : Nat => s.heap.size ≤ q) b := Nat.not_le.mpr hbl
  have hK : va_K ((fun c0 => (hkn c0).choose), (fun c0 => (hkn c0).choose_spec.choose)) vwCl [] s := by
    refine ⟨fun c0 q hq0 => ?_, fun k q hk => by cases hk⟩
    have h13 : c0 < 12 := (List.getElem?_eq_some_iff.mp hq0).1
    rw [jw_cl h13] at hq0
    cases hq0
    exact (hkn c0).choose_spec.choose_spec h13
  have hZ : jw_Z b L xs (fun q => s.heap.size ≤ q) s := by
    refine ⟨hX, hbl, hA, fun w hw => va_Nw.of (jw_nest_on (List.mem_filter.mp hw).2) (htb w (List.mem_filter.mp hw).1), ?_, ?_, fun q hq0 => ?_, va_AO.of (htb _ jw_gv5.1), va_AO.of (htb _ jw_gv5.2.1), va_AO.of (htb _ jw_gv5.2.2.1), va_AOA.of (htb _ jw_gv5.2.2.2), fun q hq0 => va_Nc.of (hfl _ (jw_gv3 q hq0))⟩
    · exact vx_Zqof (htb _ jw_gv4.1) (htb _ jw_gv4.2.2) (hfl _ jw_gv1) (fun a ha => Nat.not_le.mpr ha)
    · exact vx_Zqof (htb _ jw_gv4.2.1) (htb _ jw_gv4.2.2) (hfl _ jw_gv2) (fun a ha => Nat.not_le.mpr ha)
    · have h1 := htb _ (jw_strs q hq0)
      obtain ⟨cC, hfc⟩ : ∃ cC, s.vm.findClass RX11 = some cC := ⟨_, ((hkn 11).choose_spec.choose_spec (by decide)).2.1⟩
      obtain ⟨_, _, _, a, -, -, -, -, -, h2⟩ := Cond.stringRef_spec hfc (args := #[Value.ref b]) (first := s) (o := none) (idx := []) h1
      exact ⟨a, vk_R.of h1 h2⟩
  have hE := l_L_law (hi := jw_h0) hq
  have hC : jw_C p l e room_1 s m #[Value.ref b] meth c 15 (uL_law L xs) jw_h0 h' b L xs (fun q => s.heap.size ≤ q) := by
    refine ⟨hx, hc, hml, hown, hJT, hflags, hZ, by decide, by decide, ?_, ?_, fun q hq0 => hq0, (fun z => nomatch z), (fun q z => nomatch z), fun q hq0 => by cases hq0; exact ⟨rfl, rfl⟩⟩
    · show jw_c h' ≤ 600130 + 0; omega
    · show jw_s h' ≤ 7301079 + 0; omega
  rw [lg_entry_eq]
  refine hE.2.2.2 p l e room_1 s m #[Value.ref b] below meth c b L xs _ (fun q => s.heap.size ≤ q) (lw_Z below #[Value.ref b] s) (fun _ => 0) hC ?_ ?_ (fun _ => 0) [] (fun _ => 0) s.heap [] 0 0 _ ⟨⟨hK, ?_, ?_, ?_, ?_, ?_, ?_⟩, va_S.rf, ⟨Nat.le_refl _, fun _ _ => rfl⟩, ⟨rfl, rfl⟩, ?_⟩ (fun w hw => by cases hw)
  · intro κ tys σ Hm locs cells slots ls pc' i L' S' M hs hd hri hrt
    rcases hri with ⟨rfl, x, hr1, rfl⟩ | ⟨rfl, x, hr1, -⟩ | ⟨rfl, o, hr1, -⟩ | ⟨rfl, hr1, -⟩
    · cases hr1
      refine va_forget (fun q hq0 => M.2.1.2.2 q hq0) ?_
      have e1 := M.2.2.2.1.1
      have e2 := M.2.2.2.1.2
      have e3 : cells = jw_c h' := e1
      have e4 : slots = jw_s h' := e2
      refine W.widen (k := 600130) (n := 7301079) (by omega) (by omega) ?_
      exact lw_ret hx hc hr hlk hd
    · cases hr1
    · cases o <;> cases hr1
    · cases hr1
  · intro κ tys σ Hm locs cells slots ls pc' L' S' h'' E M _ hr1
    cases hr1
  · intro k q hk; cases hk
  · exact ⟨fun i j p q hp => (by cases hp), fun k q hk => (by cases hk)⟩
  · intro k hk; exact absurd hk (Nat.not_lt_zero k)
  · intro k hk; exact absurd hk (Nat.not_lt_zero k)
  · intro k j hk; exact absurd hk (Nat.not_lt_zero k)
  · intro k j i hk; exact absurd hk (Nat.not_lt_zero k)
  · have hen := jw_entry (σ := fun _ => 0) (b := b) (n := 0) (as := [.retAddr 0]) (mL := 4) (by decide) (fun w hw => by
      rw [List.mem_singleton] at hw
      subst hw
      intro k hk; cases hk)
    exact hen
-- ===== YOUR PART ENDS =====
set_option maxHeartbeats 4000000 in
theorem lw_walk (l : Launch) (hflags : l.flags = flags0) (b : Addr) (xs : List Int32) : MetFree l x (headSpec (Jvm.Cond.code x code maxLocals ret :: tables_1) room_1) (lw_P b xs) (fun _ _ _ _ _ => True) lw_Q := by
  refine MetFree.of_bodyS (code := code) (maxLocals := maxLocals) (ret := ret) (by decide) ?_ ?_
  · intro args s m h hn
    obtain ⟨meth, c, h1, h2, h3, h4, h5, h6, -, -⟩ := Cond.code_spec hn (atoms_spec (ws := Jvm.Cond.code x code maxLocals ret :: tables_1) h _ List.mem_cons_self)
    exact ⟨meth, c, h1, h2, h3, h4, h5, h6⟩
  · intro p e s m args below meth c s₁ B hml0 hP _
    obtain ⟨rfl, hx, hbd, hgv⟩ := hP
    obtain ⟨scr, harrAt, hlist, hof, hsmall⟩ := hx
    obtain ⟨hcb, hkn, -, -⟩ := State.arrayAt?_spec harrAt
    have hown : s.vm.findClass R_law = some m.cls := findClass_of_methodNamed B.named
    have hts0 : ∀ c ∈ (Jvm.Cond.code x code maxLocals ret :: tables_1), c.before #[Value.ref b] s = true := atoms_spec (ws := Jvm.Cond.code x code maxLocals ret :: tables_1) B.pre
    have hts : ∀ w ∈ lw_tbl, w.before #[Value.ref b] s = true := k2_hts_sels lw_privs (fun w hw => hts0 w (List.mem_cons_of_mem _ hw)) lw_privs_ok
    have hml : c.maxLocals = 4 := B.maxLocals_eq (hts0 _ List.mem_cons_self)
    have X₀ : Stand p l e room_1 s m #[Value.ref b] below meth c s₁ [] 0 0 := Stand.of_body B
    have hh0 : s₁.heap = s.heap := by rw [B.state]; rfl
    have hsz : scr.slots.size = xs.length := by rw [← Array.length_toList, hlist, List.length_map]
    have hval : ∀ j : Nat, j < xs.length → scr.slots[j]? = some (.int (xs.getD j 0)) := fun j hj => by
      rw [← Array.getElem?_toList, hlist]
      simp [hj]
    have hbl : b < s.heap.size := (Array.getElem?_eq_some_iff.mp hcb).1
    have hX : va_X b xs.length (fun j => xs.getD j 0) s s.heap := ⟨scr, hcb, hof, hkn, hsz, hval⟩
    have K : W p l e room_1 s m #[Value.ref b] below meth c s₁.heap [] 0 0 (lw_Z below #[Value.ref b] s) (entryFrame m ([Value.ref b] : List Value).toArray 4) := by
      rw [hh0]
      exact whole_start l hflags hbd ⟨B.exec, B.bytes, B.returns, hml, hown, hts, hX, hbl, B.notSynchronized, hgv⟩
    obtain ⟨t, a1, o, b1, b2, b3⟩ := K s₁ rfl X₀
    exact ⟨t, o, a1, b1, b2, b3⟩
theorem lw_pre_spec {args : Array Value} {s : State} (h : (Jvm.Cond.and given_1 narrow_1).before args s = true) (hr : rest_1_c.before args s = true) : ∃ (b : Addr) (xs : List Int32), lw_P b xs args s := by
  have hs := flat_of_before _ h
  have hq := flat_of_before _ hr
  have hc : (Cond.count 1).before args s = true := hs _ (by decide +kernel)
  have harr : (Cond.arrayOf (.arg 0) .int).before args s = true := hs _ (by decide +kernel)
  have hle : (Cond.le (.length (.arg 0)) (.int 260)).before args s = true := hs _ (by decide +kernel)
  have hlen : (Cond.isInt (.length (.arg 0))).before args s = true := hq _ (by decide +kernel)
  have hall : (Cond.all (.arg 0) (.isInt (.elem (.arg 0) (.index 0)))).before args s = true := hq _ (by decide +kernel)
  obtain ⟨b, xs, hb, hx⟩ := State.ints_of_pre rfl harr hlen hall
  have hsm : xs.length < 2 ^ 31 := hx.choose_spec.2.2.2
  have hev : (Term.length (.arg 0)).eval args s none [] s = some (.int xs.length.toInt32) := hx.length_eval hb
  have hv := Cond.le_ints hev (show (Term.int 260).eval args s none [] s = some (.int 260) from rfl)
  have hd : xs.length.toInt32 ≤ 260 := by
    simpa [Cond.before, Cond.holds, hv] using hle
  have hN : xs.length ≤ 260 := (Int32.ofNat_le_ofNat hsm (by decide)).mp (show Int32.ofNat xs.length ≤ Int32.ofNat 260 from hd)
  exact ⟨b, xs, Cond.one_arg hc (show args[0]? = some (.ref b) from hb), hx, hN, h⟩
theorem lw_comes (l : Launch) (hflags : l.flags = flags0) : Comes l x (Jvm.Cond.code x code maxLocals ret :: tables_1) room_1 (fun tb e args s => Calls_1 tb e args s ∧ rest_1 tb e args s ∧ Pre_1 tb e args s)
    (fun _ _ args s o t => lw_Q args s o t) := by
  intro p e ha hc hk s m args below hf hfit hheap happ hpre
  obtain ⟨b, xs, hP⟩ := lw_pre_spec hpre.2.2 hpre.2.1
  obtain ⟨k, o, h1, h2, h3, hQ⟩ := lw_walk l hflags b xs p e ha hc hk s m args below hf ((Spec.applies_iff_loose hf).mp happ).1 hP trivial
  exact ⟨k, o, h1, h2, h3, hQ⟩
theorem lw_frame {s t : State} {o : Outcome} {args : Array Value} (h : Framed s o t [] 600130 7301079) :
    Framed s o t (fieldLocs frame_1_writes args s ++ arrayLocs frame_1_arrays args s ++ staticLocs frame_1_statics s) 600130 7301079 := h
theorem lw_limb (L : Cond) (hL : ∀ (args : Array Value) (s t : State), L.after args s (.returned (some (.int 1))) t = true) :
    ArmFor flags0 classFile x code maxLocals ret World_1 tables_1 room_1 Calls_1 rest_1 Pre_1
      (fun tb e a s o t => postC L tb e a s o t ∧ Framed s o t (fieldLocs frame_1_writes a s ++ arrayLocs frame_1_arrays a s ++ staticLocs frame_1_statics s) 600130 7301079) := by
  intro l hflags _ _ p e ha hc hk s m args below hf hfit hheap happ hpre
  obtain ⟨k, o, h1, h2, h3, rfl, hF⟩ := lw_comes l hflags p e ha hc hk s m args below hf hfit hheap happ hpre
  exact ⟨k, _, h1, h2, h3, hL args s _, lw_frame hF⟩
theorem i_vc : Claimed_1_1 ∧ Claimed_1_2 := ⟨lw_limb limb_1_1 (fun args s t => by simp [limb_1_1, Cond.after, Cond.holds, Cond.value]), lw_limb limb_1_2 (fun args s t => Cond.after_iff.mpr (by
  first | (rw [show limb_1_2 = Cond.eq .result (.int 1) from rfl, Cond.eq_ints (x := 1) (y := 1) rfl rfl]; simp; done) | (simp [limb_1_2, Cond.value, Term.eval]; done)))⟩
