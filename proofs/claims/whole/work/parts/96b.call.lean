/-! one call: the class, then the reference -/
def pwG (h h' : jw_H) : Prop := jw_n h ≤ jw_n h' ∧ jw_c h' ≤ jw_c h + 1000 ∧ jw_s h' ≤ jw_s h + 13000 ∧ (∀ k, k < 620 → jw_t h' k = jw_t h k) ∧ ∀ k f, 587 ≤ k → k < 620 → jw_i h' k f = jw_i h k f ∧ jw_r h' k f = jw_r h k f
def pwU (h : jw_H) (R : pzR) (w : Int32) (h' : jw_H) : Prop := pwG h h' ∧ w = pxJ R.1 ∧ (R.1 = 0 → jw_l h' 619 0 = (pxJ R.2.1).toInt64) ∧ pwA h' R.2.2
/-- what holds of the law after n calls -/
def pL (n : Nat) (h : jw_H) (α : pzA) : Prop := pwA h α ∧ pyA h α ∧ pzOk (n : Int) α ∧ 620 ≤ jw_n h ∧ jw_t h 619 = (23, 1) ∧ jw_c h ≤ 80000 + 1000 * n ∧ jw_s h ≤ 600000 + 13000 * n
theorem pzC1.to2 {R : pzR} (C : pzC1 R) : pzC R := by
  rcases C with c | c
  · exact Or.inl c
  · exact Or.inr (Or.inl c)
theorem lg_0 (x : Int64) : lg_cmp x x = 0 := by
  unfold lg_cmp
  rw [if_neg (show ¬ x > x from Int64.lt_irrefl), if_pos rfl]
theorem pzC_ite {c : Prop} [Decidable c] {a b : pzR} (x : pzC a) (y : pzC b) : pzC (if c then a else b) := by
  by_cases k : c
  · rw [if_pos k]; exact x
  · rw [if_neg k]; exact y
theorem pzC1_ite {c : Prop} [Decidable c] {a b : pzR} (x : pzC1 a) (y : pzC1 b) : pzC1 (if c then a else b) := by
  by_cases k : c
  · rw [if_pos k]; exact x
  · rw [if_neg k]; exact y
theorem pzR_ite {c : Prop} [Decidable c] {a b : pzR} {α : pzA} (x : a.2.2 = α) (y : b.2.2 = α) : (if c then a else b).2.2 = α := by
  by_cases k : c
  · rw [if_pos k]; exact x
  · rw [if_neg k]; exact y
theorem pzC_elim {β : Type} {o : Option β} {a : pzR} {f : β → pzR} (x : pzC a) (y : ∀ s, pzC (f s)) : pzC (o.elim a f) := by
  cases o with
  | none => exact x
  | some s => exact y s
theorem pzC1_elim {β : Type} {o : Option β} {a : pzR} {f : β → pzR} (x : pzC1 a) (y : ∀ s, pzC1 (f s)) : pzC1 (o.elim a f) := by
  cases o with
  | none => exact x
  | some s => exact y s
theorem pzR_elim {β : Type} {o : Option β} {a : pzR} {f : β → pzR} {α : pzA} (x : a.2.2 = α) (y : ∀ s, (f s).2.2 = α) : (o.elim a f).2.2 = α := by
  cases o with
  | none => exact x
  | some s => exact y s
section
variable {h : jw_H} {α : pzA} {n : Nat}
theorem pL.nb (P : pL n h α) : α.2.2.1.2.2.2 ≤ 2147483647 := by
  obtain ⟨-, -, -, -, -, -, o7, o8, -⟩ := P.2.2.1
  omega
theorem pL.nb1 (P : pL n h α) : α.2.2.1.2.2.2 ≤ 1000000000 := by
  obtain ⟨-, -, -, -, -, -, o7, o8, -⟩ := P.2.2.1
  omega
theorem pL.c0 (P : pL n h α) : 0 ≤ α.2.2.2.2.2.1 := P.2.2.1.2.2.2.2.2.2.2.2.1.1
theorem pL.c1 (P : pL n h α) : α.2.2.2.2.2.1 ≤ 1000000000 := by
  obtain ⟨-, -, -, -, -, -, -, o8, o9, -⟩ := P.2.2.1
  omega
theorem pwF.g {h' : jw_H} (F : pwF h h') : pwG h h' := ⟨F.1, F.2.1, F.2.2.1, F.2.2.2.1, fun k f a b => ⟨(F.2.2.2.2 k f a b).1, (F.2.2.2.2 k f a b).2.2⟩⟩
theorem pyA.pastG {h' : jw_H} (A : pyA h α) (F : pwG h h') : pyA h' α := by
  have B : pyA (jw_n h, jw_c h, jw_s h, jw_t h, jw_i h', jw_l h, jw_r h) α := A.keep (P := fun k _ => k < 587 ∨ 620 ≤ k) ⟨.refl _, .refl _, .refl _, .refl _, .refl _, .refl _, fun k f hp => by
    have e := (F.2.2.2.2 k f (by omega) (by omega)).1
    show pxM h' k f = pxM h k f
    unfold pxM
    rw [e]⟩ (fun k f z => by unfold pyQA0 at z; omega)
  have H : pyS h' := by
    have S := A.1
    unfold pyS at S ⊢
    refine ⟨by rw [F.2.2.2.1 587 (by omega)]; exact S.1, fun q hq => ?_⟩
    have b : ∀ q ∈ pyTb, q.2.1 < 620 := by decide
    rw [(F.2.2.2.2 587 q.1 (by omega) (by omega)).2, F.2.2.2.1 q.2.1 (b q hq)]
    exact S.2 q hq
  exact ⟨H, B.2⟩
theorem pwU_l {E1 E2 : String} {R : pzR} {v : Int32} {h2 : jw_H} (t : jw_t h 619 = (23, 1)) (C : pzC R) (Y : pwY E1 E2 h R (.inl v) h2) : pxW ((jw_sl h2 (some 619) (0 : Int32) v.toInt64).bind fun h3 => some ((0 : Int32), h3)) fun w h' => pwU h R w h' := by
  obtain ⟨F, y0, y1, y2, A⟩ := Y
  have c : R.1 = 0 := by
    rcases C with c | c | c
    · exact c
    · cases y1 c
    · cases y2 c
  have ev : v = pxJ R.2.1 := Sum.inl.inj (y0 c)
  subst ev
  have t2 : jw_t h2 619 = (23, 1) := by rw [F.2.2.2.1 619 (by omega)]; exact t
  have FL : pxF (fun k f => k = 619 ∧ f = 0) h2 (jw_setL h2 619 (0 : Int).toNat (pxJ R.2.1).toInt64) := pxF.setL ⟨rfl, rfl⟩
  rw [show (0 : Int32) = pxJ 0 from rfl, px_sl (by rw [t2]) (by omega) (by rw [t2]; decide) (by omega), px_bs]
  refine pxW_some.mpr ⟨⟨F.1, F.2.1, F.2.2.1, F.2.2.2.1, fun k f a b => ⟨(F.2.2.2.2 k f a b).1, (F.2.2.2.2 k f a b).2.2⟩⟩, by rw [c], fun _ => ?_, A.fr FL (fun k f z => by omega)⟩
  show jw_u (jw_l h2) 619 0 (pxJ R.2.1).toInt64 619 0 = _
  unfold jw_u
  simp
theorem pwU_r2 {E1 E2 E : String} {R : pzR} {h2 : jw_H} (ne : E2 ≠ E1) (C : pzC R) (Y : pwY E1 E2 h R (.inr E) h2) : pxW (if E = E1 then some ((1 : Int32), h2) else if E = E2 then some ((2 : Int32), h2) else none) fun w h' => pwU h R w h' := by
  obtain ⟨F, y0, y1, y2, A⟩ := Y
  rcases C with c | c | c
  · cases y0 c
  · rw [Sum.inr.inj (y1 c), if_pos rfl]
    exact pxW_some.mpr ⟨F.g, by rw [c]; rfl, fun z => absurd (c.symm.trans z) (by decide), A⟩
  · rw [Sum.inr.inj (y2 c), if_neg ne, if_pos rfl]
    exact pxW_some.mpr ⟨F.g, by rw [c]; rfl, fun z => absurd (c.symm.trans z) (by decide), A⟩
theorem pwU_r1 {E1 E2 E : String} {R : pzR} {h2 : jw_H} (C : pzC1 R) (Y : pwY E1 E2 h R (.inr E) h2) : pxW (if E = E1 then some ((1 : Int32), h2) else none) fun w h' => pwU h R w h' := by
  obtain ⟨F, y0, y1, y2, A⟩ := Y
  rcases C with c | c
  · cases y0 c
  · rw [Sum.inr.inj (y1 c), if_pos rfl]
    exact pxW_some.mpr ⟨F.g, by rw [c]; rfl, fun z => absurd (c.symm.trans z) (by decide), A⟩
theorem pL.go {R : pzR} {w : Int32} {h2 h6 : jw_H} (P : pL n h α) (ok : pzOk ((n : Int) + 1) R.2.2) (G : pwG h h2) (A2 : pwA h2 R.2.2) (Z : pyZ h2 R w h6) : pL (n + 1) h6 R.2.2 := by
  obtain ⟨-, -, -, p4, p5, p6, p7⟩ := P
  have A6 := A2.past Z
  obtain ⟨V, e0, ev, B6⟩ := Z
  have z1 := V.1
  have z2 := V.2.1
  have z3 := V.2.2.1
  have g1 := G.1
  have g2 := G.2.1
  have g3 := G.2.2.1
  refine ⟨A6, B6, ?_, by omega, by rw [V.2.2.2.1, G.2.2.2.1 619 (by omega)]; exact p5, by omega, by omega⟩
  rw [show ((n + 1 : Nat) : Int) = (n : Int) + 1 by omega]
  exact ok
theorem pL.same (P : pL n h α) (n6 : (n : Int) + 1 ≤ 600) : pL (n + 1) h α := by
  obtain ⟨p1, p2, p3, p4, p5, p6, p7⟩ := P
  refine ⟨p1, p2, ?_, p4, p5, by omega, by omega⟩
  rw [show ((n + 1 : Nat) : Int) = (n : Int) + 1 by omega]
  exact p3.up n6
theorem pL_thr {R : pzR} {oL : Option (Int32 × jw_H)} {oR : jw_H → Nat → Option (Int32 × jw_H)} {K : jw_H → Option (Int32 × jw_H)} {Q : Int32 → jw_H → Prop} (P : pL n h α) (ok : pzOk ((n : Int) + 1) R.2.2) (C : pzC R) (hL : pxW oL fun w h' => pwU h R w h') (hR : ∀ h2, pyA h2 α → pxW (oR h2 587) fun v h' => pyZ h2 R v h') (next : ∀ h', pL (n + 1) h' R.2.2 → pxW (K h') Q) :
    pxW (jw_b2 oL fun w3 h2 => (jw_rc h2 12 (some 587)).bind fun a5 => jw_b2 (oR h2 a5) fun w7 h6 => (jw_rc h6 12 (some 587)).bind fun a8 => jw_b2 (f_X12_thrown h6 a8) fun w10 h9 => if w10 = w3 then (if w3 = 0 then ((jw_al h9 (some 619) (0 : Int32)).bind fun v13 => if (lg_cmp v13 w7.toInt64) = 0 then K h9 else some ((0 : Int32), h9)) else K h9) else some ((0 : Int32), h9)) Q := by
  refine pxW_b2 hL fun w3 h2 u => ?_
  obtain ⟨G, ew, el, A2⟩ := u
  subst ew
  have B2 := P.2.1.pastG G
  rw [px_rc B2.1.1, px_bs]
  refine pxW_b2 (hR h2 B2) fun w7 h6 Z => ?_
  have PL := P.go ok G A2 Z
  obtain ⟨V, e0, ev, B6⟩ := Z
  have ea : jw_al h6 (some 619) (0 : Int32) = some (jw_l h6 619 0) := by
    rw [show (0 : Int32) = pxJ 0 from rfl, px_al (by rw [PL.2.2.2.2.1]) (by omega) (by rw [PL.2.2.2.2.1]; decide) (by omega)]
    rfl
  rw [px_rc B6.1.1, px_bs, n_thrown B6.1 e0, px_b2, if_pos rfl]
  by_cases c : R.1 = 0
  · rw [if_pos (show pxJ R.1 = 0 by rw [c]; rfl), ea, px_bs, V.2.2.2.2.1, el c, ev c, if_pos (lg_0 _)]
    exact next h6 PL
  · have c2 : R.1 = 1 ∨ R.1 = 2 := by
      rcases C with z | z
      · exact absurd z c
      · exact z
    rw [if_neg (show ¬ (pxJ R.1 = 0) from fun z => c ((pxJ_eq (a := R.1) (b := 0) (by omega) (by omega) (by omega) (by omega)).mp z))]
    exact next h6 PL
theorem pL_nt {R : pzR} {oC : Option (Int32 × jw_H)} {oR : jw_H → Nat → Option (Int32 × jw_H)} {K : jw_H → Option (Int32 × jw_H)} {Q : Int32 → jw_H → Prop} (P : pL n h α) (ok : pzOk ((n : Int) + 1) R.2.2) (hC : pxW oC fun v h' => pwZ h R v h') (hR : ∀ h2, pyA h2 α → pxW (oR h2 587) fun v h' => pyZ h2 R v h') (next : ∀ h', pL (n + 1) h' R.2.2 → pxW (K h') Q) :
    pxW (jw_b2 oC fun w3 h2 => (jw_rc h2 12 (some 587)).bind fun a4 => jw_b2 (oR h2 a4) fun w6 h5 => if w3 = w6 then K h5 else some ((0 : Int32), h5)) Q := by
  refine pxW_b2 hC fun w3 h2 u => ?_
  obtain ⟨F, z, ew, A2⟩ := u
  subst ew
  have G := F.g
  have B2 := P.2.1.pastG G
  rw [px_rc B2.1.1, px_bs]
  refine pxW_b2 (hR h2 B2) fun w6 h6 Z => ?_
  have PL := P.go ok G A2 Z
  obtain ⟨V, e0, ev, B6⟩ := Z
  rw [ev z, if_pos rfl]
  exact next h6 PL
theorem pz_type_c {c : Int} : pzC (pz_type c α) := by
  unfold pz_type
  repeat' (first | apply pzC_ite | apply pzC_elim | intro _ | exact Or.inl rfl | exact Or.inr rfl | exact Or.inr (Or.inl rfl) | exact Or.inr (Or.inr rfl))
theorem pz_run_c  : pzC1 (pz_run α) := by
  unfold pz_run
  repeat' (first | apply pzC1_ite | apply pzC1_elim | intro _ | exact Or.inl rfl | exact Or.inr rfl | exact Or.inr (Or.inl rfl) | exact Or.inr (Or.inr rfl))
theorem pz_keep_c {k : Int} : pzC (pz_keep k α) := by
  unfold pz_keep
  repeat' (first | apply pzC_ite | apply pzC_elim | intro _ | exact Or.inl rfl | exact Or.inr rfl | exact Or.inr (Or.inl rfl) | exact Or.inr (Or.inr rfl))
theorem pz_play_c {k : Int} : pzC (pz_play k α) := by
  unfold pz_play
  repeat' (first | apply pzC_ite | apply pzC_elim | intro _ | exact Or.inl rfl | exact Or.inr rfl | exact Or.inr (Or.inl rfl) | exact Or.inr (Or.inr rfl))
theorem pz_stream_c {k : Int} : pzC (pz_stream k α) := by
  unfold pz_stream
  repeat' (first | apply pzC_ite | apply pzC_elim | intro _ | exact Or.inl rfl | exact Or.inr rfl | exact Or.inr (Or.inl rfl) | exact Or.inr (Or.inr rfl))
theorem pz_scl_c {k : Int} : pzC1 (pz_scl k α) := by
  unfold pz_scl
  repeat' (first | apply pzC1_ite | apply pzC1_elim | intro _ | exact Or.inl rfl | exact Or.inr rfl | exact Or.inr (Or.inl rfl) | exact Or.inr (Or.inr rfl))
theorem pz_scl_r {k : Int} : (pz_scl k α).2.2 = α := by
  unfold pz_scl
  repeat' (first | apply pzR_ite | apply pzR_elim | intro _ | rfl)
theorem pz_sca_c {k j : Int} : pzC1 (pz_sca k j α) := by
  unfold pz_sca
  repeat' (first | apply pzC1_ite | apply pzC1_elim | intro _ | exact Or.inl rfl | exact Or.inr rfl | exact Or.inr (Or.inl rfl) | exact Or.inr (Or.inr rfl))
theorem pz_sca_r {k j : Int} : (pz_sca k j α).2.2 = α := by
  unfold pz_sca
  repeat' (first | apply pzR_ite | apply pzR_elim | intro _ | rfl)
theorem pz_undo_c  : pzC1 (pz_undo α) := by
  unfold pz_undo
  repeat' (first | apply pzC1_ite | apply pzC1_elim | intro _ | exact Or.inl rfl | exact Or.inr rfl | exact Or.inr (Or.inl rfl) | exact Or.inr (Or.inr rfl))
theorem pz_undoRun_c  : pzC1 (pz_undoRun α) := by
  unfold pz_undoRun
  repeat' (first | apply pzC1_ite | apply pzC1_elim | intro _ | exact Or.inl rfl | exact Or.inr rfl | exact Or.inr (Or.inl rfl) | exact Or.inr (Or.inr rfl))
theorem pz_len_c {rs : List (List Int)} {x : Int} : pzC1 (pz_len rs x α) := by
  unfold pz_len
  repeat' (first | apply pzC1_ite | apply pzC1_elim | intro _ | exact Or.inl rfl | exact Or.inr rfl | exact Or.inr (Or.inl rfl) | exact Or.inr (Or.inr rfl))
theorem pz_len_r {rs : List (List Int)} {x : Int} : (pz_len rs x α).2.2 = α := by
  unfold pz_len
  repeat' (first | apply pzR_ite | apply pzR_elim | intro _ | rfl)
theorem pz_at_c {rs : List (List Int)} {x y : Int} : pzC1 (pz_at rs x y α) := by
  unfold pz_at
  repeat' (first | apply pzC1_ite | apply pzC1_elim | intro _ | exact Or.inl rfl | exact Or.inr rfl | exact Or.inr (Or.inl rfl) | exact Or.inr (Or.inr rfl))
theorem pz_at_r {rs : List (List Int)} {x y : Int} : (pz_at rs x y α).2.2 = α := by
  unfold pz_at
  repeat' (first | apply pzR_ite | apply pzR_elim | intro _ | rfl)
theorem pz_id_c {x : Int} : pzC1 (pz_id x α) := by
  unfold pz_id
  repeat' (first | apply pzC1_ite | apply pzC1_elim | intro _ | exact Or.inl rfl | exact Or.inr rfl | exact Or.inr (Or.inl rfl) | exact Or.inr (Or.inr rfl))
theorem pz_id_r {x : Int} : (pz_id x α).2.2 = α := by
  unfold pz_id
  repeat' (first | apply pzR_ite | apply pzR_elim | intro _ | rfl)
theorem pz_mark_c {k : Int} : pzC1 (pz_mark k α) := by
  unfold pz_mark
  repeat' (first | apply pzC1_ite | apply pzC1_elim | intro _ | exact Or.inl rfl | exact Or.inr rfl | exact Or.inr (Or.inl rfl) | exact Or.inr (Or.inr rfl))
theorem pz_mark_r {k : Int} : (pz_mark k α).2.2 = α := by
  unfold pz_mark
  repeat' (first | apply pzR_ite | apply pzR_elim | intro _ | rfl)
theorem pz_sample_c {z n : Int} : pzC (pz_sample z n α) := by
  unfold pz_sample
  repeat' (first | apply pzC_ite | apply pzC_elim | intro _ | exact Or.inl rfl | exact Or.inr rfl | exact Or.inr (Or.inl rfl) | exact Or.inr (Or.inr rfl))
theorem pz_frows_c {k : Int} : pzC1 (pz_frows k α) := by
  unfold pz_frows
  repeat' (first | apply pzC1_ite | apply pzC1_elim | intro _ | exact Or.inl rfl | exact Or.inr rfl | exact Or.inr (Or.inl rfl) | exact Or.inr (Or.inr rfl))
theorem pz_frows_r {k : Int} : (pz_frows k α).2.2 = α := by
  unfold pz_frows
  repeat' (first | apply pzR_ite | apply pzR_elim | intro _ | rfl)
theorem pz_flen_c {k x : Int} : pzC1 (pz_flen k x α) := by
  unfold pz_flen pz_len
  repeat' (first | apply pzC1_ite | apply pzC1_elim | intro _ | exact Or.inl rfl | exact Or.inr rfl | exact Or.inr (Or.inl rfl) | exact Or.inr (Or.inr rfl))
theorem pz_flen_r {k x : Int} : (pz_flen k x α).2.2 = α := by
  unfold pz_flen pz_len
  repeat' (first | apply pzR_ite | apply pzR_elim | intro _ | rfl)
theorem pz_fat_c {k x y : Int} : pzC1 (pz_fat k x y α) := by
  unfold pz_fat pz_at
  repeat' (first | apply pzC1_ite | apply pzC1_elim | intro _ | exact Or.inl rfl | exact Or.inr rfl | exact Or.inr (Or.inl rfl) | exact Or.inr (Or.inr rfl))
theorem pz_fat_r {k x y : Int} : (pz_fat k x y α).2.2 = α := by
  unfold pz_fat pz_at
  repeat' (first | apply pzR_ite | apply pzR_elim | intro _ | rfl)
theorem pz_find_c {back : Bool} : pzC1 (pz_find back α) := by
  unfold pz_find
  repeat' (first | apply pzC1_ite | apply pzC1_elim | intro _ | exact Or.inl rfl | exact Or.inr rfl | exact Or.inr (Or.inl rfl) | exact Or.inr (Or.inr rfl))
theorem pz_find_r {back : Bool} : (pz_find back α).2.2 = α := by
  unfold pz_find
  repeat' (first | apply pzR_ite | apply pzR_elim | intro _ | rfl)
theorem pz_fse_c {en : Bool} {x : Int} : pzC (pz_fse en x α) := by
  unfold pz_fse
  repeat' (first | apply pzC_ite | apply pzC_elim | intro _ | exact Or.inl rfl | exact Or.inr rfl | exact Or.inr (Or.inl rfl) | exact Or.inr (Or.inr rfl))
theorem pz_fse_r {en : Bool} {x : Int} : (pz_fse en x α).2.2 = α := by
  unfold pz_fse
  repeat' (first | apply pzR_ite | apply pzR_elim | intro _ | rfl)
theorem pz_differ_c {k : Int} : pzC1 (pz_differ k α) := by
  unfold pz_differ
  repeat' (first | apply pzC1_ite | apply pzC1_elim | intro _ | exact Or.inl rfl | exact Or.inr rfl | exact Or.inr (Or.inl rfl) | exact Or.inr (Or.inr rfl))
theorem pz_differ_r {k : Int} : (pz_differ k α).2.2 = α := by
  unfold pz_differ
  repeat' (first | apply pzR_ite | apply pzR_elim | intro _ | rfl)
theorem pz_pairOf_c {k x : Int} : pzC1 (pz_pairOf k x α) := by
  unfold pz_pairOf
  repeat' (first | apply pzC1_ite | apply pzC1_elim | intro _ | exact Or.inl rfl | exact Or.inr rfl | exact Or.inr (Or.inl rfl) | exact Or.inr (Or.inr rfl))
theorem pz_pairOf_r {k x : Int} : (pz_pairOf k x α).2.2 = α := by
  unfold pz_pairOf
  repeat' (first | apply pzR_ite | apply pzR_elim | intro _ | rfl)
theorem w_type {c0 : Int32} {R : pzR} (A : pwA h α) (t : jw_t h 619 = (23, 1)) (C : pzC R) (hC : pxW (f_X11_type h 0 c0) fun v h' => pwY "java/lang/IllegalArgumentException" "java/lang/IllegalStateException" h R v h') : pxW (f_L_type h (some 0) c0 (some 619)) fun w h' => pwU h R w h' := by
  unfold f_L_type
  rw [px_rc A.1.1, px_bs]
  refine pxW_b2 hC fun v h2 q => ?_
  cases v with
  | inl v => exact pwU_l t C q
  | inr E => exact pwU_r2 (by first | decide | simp) C q
theorem w_run {R : pzR} (A : pwA h α) (t : jw_t h 619 = (23, 1)) (C : pzC1 R) (hC : pxW (f_X11_run h 0) fun v h' => pwY "java/lang/IllegalStateException" "" h R v h') : pxW (f_L_run h (some 0) (some 619)) fun w h' => pwU h R w h' := by
  unfold f_L_run
  rw [px_rc A.1.1, px_bs]
  refine pxW_b2 hC fun v h2 q => ?_
  cases v with
  | inl v => exact pwU_l t C.to2 q
  | inr E => exact pwU_r1 C q
theorem w_keep {c0 : Int32} {R : pzR} (A : pwA h α) (t : jw_t h 619 = (23, 1)) (C : pzC R) (hC : pxW (f_X11_keep h 0 c0) fun v h' => pwY "java/lang/IndexOutOfBoundsException" "java/lang/IllegalStateException" h R v h') : pxW (f_L_keep h (some 0) c0 (some 619)) fun w h' => pwU h R w h' := by
  unfold f_L_keep
  rw [px_rc A.1.1, px_bs]
  refine pxW_b2 hC fun v h2 q => ?_
  cases v with
  | inl v => exact pwU_l t C q
  | inr E => exact pwU_r2 (by first | decide | simp) C q
theorem w_play {c0 : Int32} {R : pzR} (A : pwA h α) (t : jw_t h 619 = (23, 1)) (C : pzC R) (hC : pxW (f_X11_play h 0 c0) fun v h' => pwY "java/lang/IndexOutOfBoundsException" "java/lang/IllegalStateException" h R v h') : pxW (f_L_play h (some 0) c0 (some 619)) fun w h' => pwU h R w h' := by
  unfold f_L_play
  rw [px_rc A.1.1, px_bs]
  refine pxW_b2 hC fun v h2 q => ?_
  cases v with
  | inl v => exact pwU_l t C q
  | inr E => exact pwU_r2 (by first | decide | simp) C q
theorem w_stream {c0 : Int32} {R : pzR} (A : pwA h α) (t : jw_t h 619 = (23, 1)) (C : pzC R) (hC : pxW (f_X11_stream h 0 c0) fun v h' => pwY "java/lang/IndexOutOfBoundsException" "java/lang/IllegalStateException" h R v h') : pxW (f_L_stream h (some 0) c0 (some 619)) fun w h' => pwU h R w h' := by
  unfold f_L_stream
  rw [px_rc A.1.1, px_bs]
  refine pxW_b2 hC fun v h2 q => ?_
  cases v with
  | inl v => exact pwU_l t C q
  | inr E => exact pwU_r2 (by first | decide | simp) C q
theorem w_scriptLength {c0 : Int32} {R : pzR} (A : pwA h α) (t : jw_t h 619 = (23, 1)) (C : pzC1 R) (hC : pxW (f_X11_scriptLength h 0 c0) fun v h' => pwY "java/lang/IndexOutOfBoundsException" "" h R v h') : pxW (f_L_scriptLength h (some 0) c0 (some 619)) fun w h' => pwU h R w h' := by
  unfold f_L_scriptLength
  rw [px_rc A.1.1, px_bs]
  refine pxW_b2 hC fun v h2 q => ?_
  cases v with
  | inl v => exact pwU_l t C.to2 q
  | inr E => exact pwU_r1 C q
theorem w_scriptAt {c0 c1 : Int32} {R : pzR} (A : pwA h α) (t : jw_t h 619 = (23, 1)) (C : pzC1 R) (hC : pxW (f_X11_scriptAt h 0 c0 c1) fun v h' => pwY "java/lang/IndexOutOfBoundsException" "" h R v h') : pxW (f_L_scriptAt h (some 0) c0 c1 (some 619)) fun w h' => pwU h R w h' := by
  unfold f_L_scriptAt
  rw [px_rc A.1.1, px_bs]
  refine pxW_b2 hC fun v h2 q => ?_
  cases v with
  | inl v => exact pwU_l t C.to2 q
  | inr E => exact pwU_r1 C q
theorem w_undo {R : pzR} (A : pwA h α) (t : jw_t h 619 = (23, 1)) (C : pzC1 R) (hC : pxW (f_X11_undo h 0) fun v h' => pwY "java/lang/IllegalStateException" "" h R v h') : pxW (f_L_undo h (some 0) (some 619)) fun w h' => pwU h R w h' := by
  unfold f_L_undo
  rw [px_rc A.1.1, px_bs]
  refine pxW_b2 hC fun v h2 q => ?_
  cases v with
  | inl v => exact pwU_l t C.to2 q
  | inr E => exact pwU_r1 C q
theorem w_undoRun {R : pzR} (A : pwA h α) (t : jw_t h 619 = (23, 1)) (C : pzC1 R) (hC : pxW (f_X11_undoRun h 0) fun v h' => pwY "java/lang/IllegalStateException" "" h R v h') : pxW (f_L_undoRun h (some 0) (some 619)) fun w h' => pwU h R w h' := by
  unfold f_L_undoRun
  rw [px_rc A.1.1, px_bs]
  refine pxW_b2 hC fun v h2 q => ?_
  cases v with
  | inl v => exact pwU_l t C.to2 q
  | inr E => exact pwU_r1 C q
theorem w_length {c0 : Int32} {R : pzR} (A : pwA h α) (t : jw_t h 619 = (23, 1)) (C : pzC1 R) (hC : pxW (f_X11_length h 0 c0) fun v h' => pwY "java/lang/IndexOutOfBoundsException" "" h R v h') : pxW (f_L_length h (some 0) c0 (some 619)) fun w h' => pwU h R w h' := by
  unfold f_L_length
  rw [px_rc A.1.1, px_bs]
  refine pxW_b2 hC fun v h2 q => ?_
  cases v with
  | inl v => exact pwU_l t C.to2 q
  | inr E => exact pwU_r1 C q
theorem w_at {c0 c1 : Int32} {R : pzR} (A : pwA h α) (t : jw_t h 619 = (23, 1)) (C : pzC1 R) (hC : pxW (f_X11_at h 0 c0 c1) fun v h' => pwY "java/lang/IndexOutOfBoundsException" "" h R v h') : pxW (f_L_at h (some 0) c0 c1 (some 619)) fun w h' => pwU h R w h' := by
  unfold f_L_at
  rw [px_rc A.1.1, px_bs]
  refine pxW_b2 hC fun v h2 q => ?_
  cases v with
  | inl v => exact pwU_l t C.to2 q
  | inr E => exact pwU_r1 C q
theorem w_id {c0 : Int32} {R : pzR} (A : pwA h α) (t : jw_t h 619 = (23, 1)) (C : pzC1 R) (hC : pxW (f_X11_id h 0 c0) fun v h' => pwY "java/lang/IndexOutOfBoundsException" "" h R v h') : pxW (f_L_id h (some 0) c0 (some 619)) fun w h' => pwU h R w h' := by
  unfold f_L_id
  rw [px_rc A.1.1, px_bs]
  refine pxW_b2 hC fun v h2 q => ?_
  cases v with
  | inl v => exact pwU_l t C.to2 q
  | inr E => exact pwU_r1 C q
theorem w_mark {c0 : Int32} {R : pzR} (A : pwA h α) (t : jw_t h 619 = (23, 1)) (C : pzC1 R) (hC : pxW (f_X11_mark h 0 c0) fun v h' => pwY "java/lang/IndexOutOfBoundsException" "" h R v h') : pxW (f_L_mark h (some 0) c0 (some 619)) fun w h' => pwU h R w h' := by
  unfold f_L_mark
  rw [px_rc A.1.1, px_bs]
  refine pxW_b2 hC fun v h2 q => ?_
  cases v with
  | inl v => exact pwU_l t C.to2 q
  | inr E => exact pwU_r1 C q
theorem w_sample {c0 c1 : Int32} {R : pzR} (A : pwA h α) (t : jw_t h 619 = (23, 1)) (C : pzC R) (hC : pxW (f_X11_sample h 0 c0 c1) fun v h' => pwY "java/lang/IllegalArgumentException" "java/lang/IllegalStateException" h R v h') : pxW (f_L_sample h (some 0) c0 c1 (some 619)) fun w h' => pwU h R w h' := by
  unfold f_L_sample
  rw [px_rc A.1.1, px_bs]
  refine pxW_b2 hC fun v h2 q => ?_
  cases v with
  | inl v => exact pwU_l t C q
  | inr E => exact pwU_r2 (by first | decide | simp) C q
theorem w_heldLength {c0 : Int32} {R : pzR} (A : pwA h α) (t : jw_t h 619 = (23, 1)) (C : pzC1 R) (hC : pxW (f_X11_heldLength h 0 c0) fun v h' => pwY "java/lang/IndexOutOfBoundsException" "" h R v h') : pxW (f_L_heldLength h (some 0) c0 (some 619)) fun w h' => pwU h R w h' := by
  unfold f_L_heldLength
  rw [px_rc A.1.1, px_bs]
  refine pxW_b2 hC fun v h2 q => ?_
  cases v with
  | inl v => exact pwU_l t C.to2 q
  | inr E => exact pwU_r1 C q
theorem w_heldAt {c0 c1 : Int32} {R : pzR} (A : pwA h α) (t : jw_t h 619 = (23, 1)) (C : pzC1 R) (hC : pxW (f_X11_heldAt h 0 c0 c1) fun v h' => pwY "java/lang/IndexOutOfBoundsException" "" h R v h') : pxW (f_L_heldAt h (some 0) c0 c1 (some 619)) fun w h' => pwU h R w h' := by
  unfold f_L_heldAt
  rw [px_rc A.1.1, px_bs]
  refine pxW_b2 hC fun v h2 q => ?_
  cases v with
  | inl v => exact pwU_l t C.to2 q
  | inr E => exact pwU_r1 C q
theorem w_outLength {c0 : Int32} {R : pzR} (A : pwA h α) (t : jw_t h 619 = (23, 1)) (C : pzC1 R) (hC : pxW (f_X11_outLength h 0 c0) fun v h' => pwY "java/lang/IndexOutOfBoundsException" "" h R v h') : pxW (f_L_outLength h (some 0) c0 (some 619)) fun w h' => pwU h R w h' := by
  unfold f_L_outLength
  rw [px_rc A.1.1, px_bs]
  refine pxW_b2 hC fun v h2 q => ?_
  cases v with
  | inl v => exact pwU_l t C.to2 q
  | inr E => exact pwU_r1 C q
theorem w_outAt {c0 c1 : Int32} {R : pzR} (A : pwA h α) (t : jw_t h 619 = (23, 1)) (C : pzC1 R) (hC : pxW (f_X11_outAt h 0 c0 c1) fun v h' => pwY "java/lang/IndexOutOfBoundsException" "" h R v h') : pxW (f_L_outAt h (some 0) c0 c1 (some 619)) fun w h' => pwU h R w h' := by
  unfold f_L_outAt
  rw [px_rc A.1.1, px_bs]
  refine pxW_b2 hC fun v h2 q => ?_
  cases v with
  | inl v => exact pwU_l t C.to2 q
  | inr E => exact pwU_r1 C q
theorem w_fileRows {c0 : Int32} {R : pzR} (A : pwA h α) (t : jw_t h 619 = (23, 1)) (C : pzC1 R) (hC : pxW (f_X11_fileRows h 0 c0) fun v h' => pwY "java/lang/IndexOutOfBoundsException" "" h R v h') : pxW (f_L_fileRows h (some 0) c0 (some 619)) fun w h' => pwU h R w h' := by
  unfold f_L_fileRows
  rw [px_rc A.1.1, px_bs]
  refine pxW_b2 hC fun v h2 q => ?_
  cases v with
  | inl v => exact pwU_l t C.to2 q
  | inr E => exact pwU_r1 C q
theorem w_fileLength {c0 c1 : Int32} {R : pzR} (A : pwA h α) (t : jw_t h 619 = (23, 1)) (C : pzC1 R) (hC : pxW (f_X11_fileLength h 0 c0 c1) fun v h' => pwY "java/lang/IndexOutOfBoundsException" "" h R v h') : pxW (f_L_fileLength h (some 0) c0 c1 (some 619)) fun w h' => pwU h R w h' := by
  unfold f_L_fileLength
  rw [px_rc A.1.1, px_bs]
  refine pxW_b2 hC fun v h2 q => ?_
  cases v with
  | inl v => exact pwU_l t C.to2 q
  | inr E => exact pwU_r1 C q
theorem w_fileAt {c0 c1 c2 : Int32} {R : pzR} (A : pwA h α) (t : jw_t h 619 = (23, 1)) (C : pzC1 R) (hC : pxW (f_X11_fileAt h 0 c0 c1 c2) fun v h' => pwY "java/lang/IndexOutOfBoundsException" "" h R v h') : pxW (f_L_fileAt h (some 0) c0 c1 c2 (some 619)) fun w h' => pwU h R w h' := by
  unfold f_L_fileAt
  rw [px_rc A.1.1, px_bs]
  refine pxW_b2 hC fun v h2 q => ?_
  cases v with
  | inl v => exact pwU_l t C.to2 q
  | inr E => exact pwU_r1 C q
theorem w_find {c0 : Int32} {R : pzR} (A : pwA h α) (t : jw_t h 619 = (23, 1)) (C : pzC1 R) (hC : pxW (f_X11_find h 0 c0) fun v h' => pwY "java/lang/IllegalStateException" "" h R v h') : pxW (f_L_find h (some 0) c0 (some 619)) fun w h' => pwU h R w h' := by
  unfold f_L_find
  rw [px_rc A.1.1, px_bs]
  refine pxW_b2 hC fun v h2 q => ?_
  cases v with
  | inl v => exact pwU_l t C.to2 q
  | inr E => exact pwU_r1 C q
theorem w_findStart {c0 : Int32} {R : pzR} (A : pwA h α) (t : jw_t h 619 = (23, 1)) (C : pzC R) (hC : pxW (f_X11_findStart h 0 c0) fun v h' => pwY "java/lang/IndexOutOfBoundsException" "java/lang/IllegalStateException" h R v h') : pxW (f_L_findStart h (some 0) c0 (some 619)) fun w h' => pwU h R w h' := by
  unfold f_L_findStart
  rw [px_rc A.1.1, px_bs]
  refine pxW_b2 hC fun v h2 q => ?_
  cases v with
  | inl v => exact pwU_l t C q
  | inr E => exact pwU_r2 (by first | decide | simp) C q
theorem w_findEnd {c0 : Int32} {R : pzR} (A : pwA h α) (t : jw_t h 619 = (23, 1)) (C : pzC R) (hC : pxW (f_X11_findEnd h 0 c0) fun v h' => pwY "java/lang/IndexOutOfBoundsException" "java/lang/IllegalStateException" h R v h') : pxW (f_L_findEnd h (some 0) c0 (some 619)) fun w h' => pwU h R w h' := by
  unfold f_L_findEnd
  rw [px_rc A.1.1, px_bs]
  refine pxW_b2 hC fun v h2 q => ?_
  cases v with
  | inl v => exact pwU_l t C q
  | inr E => exact pwU_r2 (by first | decide | simp) C q
theorem w_differ {c0 : Int32} {R : pzR} (A : pwA h α) (t : jw_t h 619 = (23, 1)) (C : pzC1 R) (hC : pxW (f_X11_differ h 0 c0) fun v h' => pwY "java/lang/IndexOutOfBoundsException" "" h R v h') : pxW (f_L_differ h (some 0) c0 (some 619)) fun w h' => pwU h R w h' := by
  unfold f_L_differ
  rw [px_rc A.1.1, px_bs]
  refine pxW_b2 hC fun v h2 q => ?_
  cases v with
  | inl v => exact pwU_l t C.to2 q
  | inr E => exact pwU_r1 C q
theorem w_pairOf {c0 c1 : Int32} {R : pzR} (A : pwA h α) (t : jw_t h 619 = (23, 1)) (C : pzC1 R) (hC : pxW (f_X11_pairOf h 0 c0 c1) fun v h' => pwY "java/lang/IndexOutOfBoundsException" "" h R v h') : pxW (f_L_pairOf h (some 0) c0 c1 (some 619)) fun w h' => pwU h R w h' := by
  unfold f_L_pairOf
  rw [px_rc A.1.1, px_bs]
  refine pxW_b2 hC fun v h2 q => ?_
  cases v with
  | inl v => exact pwU_l t C.to2 q
  | inr E => exact pwU_r1 C q
end
