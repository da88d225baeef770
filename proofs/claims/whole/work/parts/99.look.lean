/-! one call: the class, then the reference -/
def pwG (h h' : jw_H) : Prop := jw_n h ≤ jw_n h' ∧ jw_c h' ≤ jw_c h + 1000 ∧ jw_s h' ≤ jw_s h + 13000 ∧ (∀ k, k < 620 → jw_t h' k = jw_t h k) ∧ ∀ k f, 587 ≤ k → k < 620 → jw_i h' k f = jw_i h k f ∧ jw_r h' k f = jw_r h k f
def pwU (h : jw_H) (R : pzR) (w : Int32) (h' : jw_H) : Prop := pwG h h' ∧ w = pxJ R.1 ∧ (R.1 = 0 → jw_l h' 619 0 = (pxJ R.2.1).toInt64) ∧ pwA h' R.2.2
/-- what holds of the law after n calls -/
def pL (n : Nat) (h : jw_H) (α : pzA) : Prop := pwA h α ∧ pyA h α ∧ pzOk (n : Int) α ∧ 620 ≤ jw_n h ∧ jw_t h 619 = (23, 1) ∧ jw_c h ≤ 80000 + 1000 * n ∧ jw_s h ≤ 600000 + 13000 * n
theorem pzC1.to2 {R : pzR} (C : pzC1 R) : pzC R := by
  rcases C with c | c
  · exact Or.inl c
  · exact Or.inr (Or.inl c)
theorem lg_0 (x : Int64) : lg_cmp x x = 0 := by
  unfold lg_cmp
  rw [if_neg (show ¬ x > x from Int64.lt_irrefl), if_pos rfl]
theorem pzC_ite {c : Prop} [Decidable c] {a b : pzR} (x : pzC a) (y : pzC b) : pzC (if c then a else b) := by
  by_cases k : c
  · rw [if_pos k]; exact x
  · rw [if_neg k]; exact y
theorem pzC1_ite {c : Prop} [Decidable c] {a b : pzR} (x : pzC1 a) (y : pzC1 b) : pzC1 (if c then a else b) := by
  by_cases k : c
  · rw [if_pos k]; exact x
  · rw [if_neg k]; exact y
theorem pzR_ite {c : Prop} [Decidable c] {a b : pzR} {α : pzA} (x : a.2.2 = α) (y : b.2.2 = α) : (if c then a else b).2.2 = α := by
  by_cases k : c
  · rw [if_pos k]; exact x
  · rw [if_neg k]; exact y
theorem pzC_elim {β : Type} {o : Option β} {a : pzR} {f : β → pzR} (x : pzC a) (y : ∀ s, pzC (f s)) : pzC (o.elim a f) := by
  cases o with
  | none => exact x
  | some s => exact y s
theorem pzC1_elim {β : Type} {o : Option β} {a : pzR} {f : β → pzR} (x : pzC1 a) (y : ∀ s, pzC1 (f s)) : pzC1 (o.elim a f) := by
  cases o with
  | none => exact x
  | some s => exact y s
theorem pzR_elim {β : Type} {o : Option β} {a : pzR} {f : β → pzR} {α : pzA} (x : a.2.2 = α) (y : ∀ s, (f s).2.2 = α) : (o.elim a f).2.2 = α := by
  cases o with
  | none => exact x
  | some s => exact y s
section
variable {h : jw_H} {α : pzA} {n : Nat}
theorem pL.nb (P : pL n h α) : α.2.2.1.2.2.2 ≤ 2147483647 := by
  obtain ⟨-, -, -, -, -, -, o7, o8, -⟩ := P.2.2.1
  omega
theorem pL.nb1 (P : pL n h α) : α.2.2.1.2.2.2 ≤ 1000000000 := by
  obtain ⟨-, -, -, -, -, -, o7, o8, -⟩ := P.2.2.1
  omega
theorem pL.c0 (P : pL n h α) : 0 ≤ α.2.2.2.2.2.1 := P.2.2.1.2.2.2.2.2.2.2.2.1.1
theorem pL.c1 (P : pL n h α) : α.2.2.2.2.2.1 ≤ 1000000000 := by
  obtain ⟨-, -, -, -, -, -, -, o8, o9, -⟩ := P.2.2.1
  omega
theorem pwF.g {h' : jw_H} (F : pwF h h') : pwG h h' := ⟨F.1, F.2.1, F.2.2.1, F.2.2.2.1, fun k f a b => ⟨(F.2.2.2.2 k f a b).1, (F.2.2.2.2 k f a b).2.2⟩⟩
theorem pyA.pastG {h' : jw_H} (A : pyA h α) (F : pwG h h') : pyA h' α := by
  have B : pyA (jw_n h, jw_c h, jw_s h, jw_t h, jw_i h', jw_l h, jw_r h) α := A.keep (P := fun k _ => k < 587 ∨ 620 ≤ k) ⟨.refl _, .refl _, .refl _, .refl _, .refl _, .refl _, fun k f hp => by
    have e := (F.2.2.2.2 k f (by omega) (by omega)).1
    show pxM h' k f = pxM h k f
    unfold pxM
    rw [e]⟩ (fun k f z => by unfold pyQA0 at z; omega)
  have H : pyS h' := by
    have S := A.1
    unfold pyS at S ⊢
    refine ⟨by rw [F.2.2.2.1 587 (by omega)]; exact S.1, fun q hq => ?_⟩
    have b : ∀ q ∈ pyTb, q.2.1 < 620 := by decide
    rw [(F.2.2.2.2 587 q.1 (by omega) (by omega)).2, F.2.2.2.1 q.2.1 (b q hq)]
    exact S.2 q hq
  exact ⟨H, B.2⟩
theorem pwU_l {E1 E2 : String} {R : pzR} {v : Int32} {h2 : jw_H} (t : jw_t h 619 = (23, 1)) (C : pzC R) (Y : pwY E1 E2 h R (.inl v) h2) : pxW ((jw_sl h2 (some 619) (0 : Int32) v.toInt64).bind fun h3 => some ((0 : Int32), h3)) fun w h' => pwU h R w h' := by
  obtain ⟨F, y0, y1, y2, A⟩ := Y
  have c : R.1 = 0 := by
    rcases C with c | c | c
    · exact c
    · cases y1 c
    · cases y2 c
  have ev : v = pxJ R.2.1 := Sum.inl.inj (y0 c)
  subst ev
  have t2 : jw_t h2 619 = (23, 1) := by rw [F.2.2.2.1 619 (by omega)]; exact t
  have FL : pxF (fun k f => k = 619 ∧ f = 0) h2 (jw_setL h2 619 (0 : Int).toNat (pxJ R.2.1).toInt64) := pxF.setL ⟨rfl, rfl⟩
  rw [show (0 : Int32) = pxJ 0 from rfl, px_sl (by rw [t2]) (by omega) (by rw [t2]; decide) (by omega), px_bs]
  refine pxW_some.mpr ⟨⟨F.1, F.2.1, F.2.2.1, F.2.2.2.1, fun k f a b => ⟨(F.2.2.2.2 k f a b).1, (F.2.2.2.2 k f a b).2.2⟩⟩, by rw [c], fun _ => ?_, A.fr FL (fun k f z => by omega)⟩
  show jw_u (jw_l h2) 619 0 (pxJ R.2.1).toInt64 619 0 = _
  unfold jw_u
  simp
theorem pwU_r2 {E1 E2 E : String} {R : pzR} {h2 : jw_H} (ne : E2 ≠ E1) (C : pzC R) (Y : pwY E1 E2 h R (.inr E) h2) : pxW (if E = E1 then some ((1 : Int32), h2) else if E = E2 then some ((2 : Int32), h2) else none) fun w h' => pwU h R w h' := by
  obtain ⟨F, y0, y1, y2, A⟩ := Y
  rcases C with c | c | c
  · cases y0 c
  · rw [Sum.inr.inj (y1 c), if_pos rfl]
    exact pxW_some.mpr ⟨F.g, by rw [c]; rfl, fun z => absurd (c.symm.trans z) (by decide), A⟩
  · rw [Sum.inr.inj (y2 c), if_neg ne, if_pos rfl]
    exact pxW_some.mpr ⟨F.g, by rw [c]; rfl, fun z => absurd (c.symm.trans z) (by decide), A⟩
theorem pwU_r1 {E1 E2 E : String} {R : pzR} {h2 : jw_H} (C : pzC1 R) (Y : pwY E1 E2 h R (.inr E) h2) : pxW (if E = E1 then some ((1 : Int32), h2) else none) fun w h' => pwU h R w h' := by
  obtain ⟨F, y0, y1, y2, A⟩ := Y
  rcases C with c | c
  · cases y0 c
  · rw [Sum.inr.inj (y1 c), if_pos rfl]
    exact pxW_some.mpr ⟨F.g, by rw [c]; rfl, fun z => absurd (c.symm.trans z) (by decide), A⟩
theorem pL.go {R : pzR} {w : Int32} {h2 h6 : jw_H} (P : pL n h α) (ok : pzOk ((n : Int) + 1) R.2.2) (G : pwG h h2) (A2 : pwA h2 R.2.2) (Z : pyZ h2 R w h6) : pL (n + 1) h6 R.2.2 := by
  obtain ⟨-, -, -, p4, p5, p6, p7⟩ := P
  have A6 := A2.past Z
  obtain ⟨V, e0, ev, B6⟩ := Z
  have z1 := V.1
  have z2 := V.2.1
  have z3 := V.2.2.1
  have g1 := G.1
  have g2 := G.2.1
  have g3 := G.2.2.1
  refine ⟨A6, B6, ?_, by omega, by rw [V.2.2.2.1, G.2.2.2.1 619 (by omega)]; exact p5, by omega, by omega⟩
  rw [show ((n + 1 : Nat) : Int) = (n : Int) + 1 by omega]
  exact ok
theorem pL.same (P : pL n h α) (n6 : (n : Int) + 1 ≤ 600) : pL (n + 1) h α := by
  obtain ⟨p1, p2, p3, p4, p5, p6, p7⟩ := P
  refine ⟨p1, p2, ?_, p4, p5, by omega, by omega⟩
  rw [show ((n + 1 : Nat) : Int) = (n : Int) + 1 by omega]
  exact p3.up n6
theorem pL_thr {R : pzR} {oL : Option (Int32 × jw_H)} {oR : jw_H → Nat → Option (Int32 × jw_H)} {K : jw_H → Option (Int32 × jw_H)} {Q : Int32 → jw_H → Prop} (P : pL n h α) (ok : pzOk ((n : Int) + 1) R.2.2) (C : pzC R) (hL : pxW oL fun w h' => pwU h R w h') (hR : ∀ h2, pyA h2 α → pxW (oR h2 587) fun v h' => pyZ h2 R v h') (next : ∀ h', pL (n + 1) h' R.2.2 → pxW (K h') Q) :
    pxW (jw_b2 oL fun w3 h2 => (jw_rc h2 12 (some 587)).bind fun a5 => jw_b2 (oR h2 a5) fun w7 h6 => (jw_rc h6 12 (some 587)).bind fun a8 => jw_b2 (f_X12_thrown h6 a8) fun w10 h9 => if w10 = w3 then (if w3 = 0 then ((jw_al h9 (some 619) (0 : Int32)).bind fun v13 => if (lg_cmp v13 w7.toInt64) = 0 then K h9 else some ((0 : Int32), h9)) else K h9) else some ((0 : Int32), h9)) Q := by
  refine pxW_b2 hL fun w3 h2 u => ?_
  obtain ⟨G, ew, el, A2⟩ := u
  subst ew
  have B2 := P.2.1.pastG G
  rw [px_rc B2.1.1, px_bs]
  refine pxW_b2 (hR h2 B2) fun w7 h6 Z => ?_
  have PL := P.go ok G A2 Z
  obtain ⟨V, e0, ev, B6⟩ := Z
  have ea : jw_al h6 (some 619) (0 : Int32) = some (jw_l h6 619 0) := by
    rw [show (0 : Int32) = pxJ 0 from rfl, px_al (by rw [PL.2.2.2.2.1]) (by omega) (by rw [PL.2.2.2.2.1]; decide) (by omega)]
    rfl
  rw [px_rc B6.1.1, px_bs, n_thrown B6.1 e0, px_b2, if_pos rfl]
  by_cases c : R.1 = 0
  · rw [if_pos (show pxJ R.1 = 0 by rw [c]; rfl), ea, px_bs, V.2.2.2.2.1, el c, ev c, if_pos (lg_0 _)]
    exact next h6 PL
  · have c2 : R.1 = 1 ∨ R.1 = 2 := by
      rcases C with z | z
      · exact absurd z c
      · exact z
    rw [if_neg (show ¬ (pxJ R.1 = 0) from fun z => c ((pxJ_eq (a := R.1) (b := 0) (by omega) (by omega) (by omega) (by omega)).mp z))]
    exact next h6 PL
theorem pL_nt {R : pzR} {oC : Option (Int32 × jw_H)} {oR : jw_H → Nat → Option (Int32 × jw_H)} {K : jw_H → Option (Int32 × jw_H)} {Q : Int32 → jw_H → Prop} (P : pL n h α) (ok : pzOk ((n : Int) + 1) R.2.2) (hC : pxW oC fun v h' => pwZ h R v h') (hR : ∀ h2, pyA h2 α → pxW (oR h2 587) fun v h' => pyZ h2 R v h') (next : ∀ h', pL (n + 1) h' R.2.2 → pxW (K h') Q) :
    pxW (jw_b2 oC fun w3 h2 => (jw_rc h2 12 (some 587)).bind fun a4 => jw_b2 (oR h2 a4) fun w6 h5 => if w3 = w6 then K h5 else some ((0 : Int32), h5)) Q := by
  refine pxW_b2 hC fun w3 h2 u => ?_
  obtain ⟨F, z, ew, A2⟩ := u
  subst ew
  have G := F.g
  have B2 := P.2.1.pastG G
  rw [px_rc B2.1.1, px_bs]
  refine pxW_b2 (hR h2 B2) fun w6 h6 Z => ?_
  have PL := P.go ok G A2 Z
  obtain ⟨V, e0, ev, B6⟩ := Z
  rw [ev z, if_pos rfl]
  exact next h6 PL
theorem pz_type_c {c : Int} : pzC (pz_type c α) := by
  unfold pz_type
  repeat' (first | apply pzC_ite | apply pzC_elim | intro _ | exact Or.inl rfl | exact Or.inr rfl | exact Or.inr (Or.inl rfl) | exact Or.inr (Or.inr rfl))
theorem pz_run_c  : pzC1 (pz_run α) := by
  unfold pz_run
  repeat' (first | apply pzC1_ite | apply pzC1_elim | intro _ | exact Or.inl rfl | exact Or.inr rfl | exact Or.inr (Or.inl rfl) | exact Or.inr (Or.inr rfl))
theorem pz_keep_c {k : Int} : pzC (pz_keep k α) := by
  unfold pz_keep
  repeat' (first | apply pzC_ite | apply pzC_elim | intro _ | exact Or.inl rfl | exact Or.inr rfl | exact Or.inr (Or.inl rfl) | exact Or.inr (Or.inr rfl))
theorem pz_play_c {k : Int} : pzC (pz_play k α) := by
  unfold pz_play
  repeat' (first | apply pzC_ite | apply pzC_elim | intro _ | exact Or.inl rfl | exact Or.inr rfl | exact Or.inr (Or.inl rfl) | exact Or.inr (Or.inr rfl))
theorem pz_stream_c {k : Int} : pzC (pz_stream k α) := by
  unfold pz_stream
  repeat' (first | apply pzC_ite | apply pzC_elim | intro _ | exact Or.inl rfl | exact Or.inr rfl | exact Or.inr (Or.inl rfl) | exact Or.inr (Or.inr rfl))
theorem pz_scl_c {k : Int} : pzC1 (pz_scl k α) := by
  unfold pz_scl
  repeat' (first | apply pzC1_ite | apply pzC1_elim | intro _ | exact Or.inl rfl | exact Or.inr rfl | exact Or.inr (Or.inl rfl) | exact Or.inr (Or.inr rfl))
theorem pz_scl_r {k : Int} : (pz_scl k α).2.2 = α := by
  unfold pz_scl
  repeat' (first | apply pzR_ite | apply pzR_elim | intro _ | rfl)
theorem pz_sca_c {k j : Int} : pzC1 (pz_sca k j α) := by
  unfold pz_sca
  repeat' (first | apply pzC1_ite | apply pzC1_elim | intro _ | exact Or.inl rfl | exact Or.inr rfl | exact Or.inr (Or.inl rfl) | exact Or.inr (Or.inr rfl))
theorem pz_sca_r {k j : Int} : (pz_sca k j α).2.2 = α := by
  unfold pz_sca
  repeat' (first | apply pzR_ite | apply pzR_elim | intro _ | rfl)
theorem pz_undo_c  : pzC1 (pz_undo α) := by
  unfold pz_undo
  repeat' (first | apply pzC1_ite | apply pzC1_elim | intro _ | exact Or.inl rfl | exact Or.inr rfl | exact Or.inr (Or.inl rfl) | exact Or.inr (Or.inr rfl))
theorem pz_undoRun_c  : pzC1 (pz_undoRun α) := by
  unfold pz_undoRun
  repeat' (first | apply pzC1_ite | apply pzC1_elim | intro _ | exact Or.inl rfl | exact Or.inr rfl | exact Or.inr (Or.inl rfl) | exact Or.inr (Or.inr rfl))
theorem pz_len_c {rs : List (List Int)} {x : Int} : pzC1 (pz_len rs x α) := by
  unfold pz_len
  repeat' (first | apply pzC1_ite | apply pzC1_elim | intro _ | exact Or.inl rfl | exact Or.inr rfl | exact Or.inr (Or.inl rfl) | exact Or.inr (Or.inr rfl))
theorem pz_len_r {rs : List (List Int)} {x : Int} : (pz_len rs x α).2.2 = α := by
  unfold pz_len
  repeat' (first | apply pzR_ite | apply pzR_elim | intro _ | rfl)
theorem pz_at_c {rs : List (List Int)} {x y : Int} : pzC1 (pz_at rs x y α) := by
  unfold pz_at
  repeat' (first | apply pzC1_ite | apply pzC1_elim | intro _ | exact Or.inl rfl | exact Or.inr rfl | exact Or.inr (Or.inl rfl) | exact Or.inr (Or.inr rfl))
theorem pz_at_r {rs : List (List Int)} {x y : Int} : (pz_at rs x y α).2.2 = α := by
  unfold pz_at
  repeat' (first | apply pzR_ite | apply pzR_elim | intro _ | rfl)
theorem pz_id_c {x : Int} : pzC1 (pz_id x α) := by
  unfold pz_id
  repeat' (first | apply pzC1_ite | apply pzC1_elim | intro _ | exact Or.inl rfl | exact Or.inr rfl | exact Or.inr (Or.inl rfl) | exact Or.inr (Or.inr rfl))
theorem pz_id_r {x : Int} : (pz_id x α).2.2 = α := by
  unfold pz_id
  repeat' (first | apply pzR_ite | apply pzR_elim | intro _ | rfl)
theorem pz_mark_c {k : Int} : pzC1 (pz_mark k α) := by
  unfold pz_mark
  repeat' (first | apply pzC1_ite | apply pzC1_elim | intro _ | exact Or.inl rfl | exact Or.inr rfl | exact Or.inr (Or.inl rfl) | exact Or.inr (Or.inr rfl))
theorem pz_mark_r {k : Int} : (pz_mark k α).2.2 = α := by
  unfold pz_mark
  repeat' (first | apply pzR_ite | apply pzR_elim | intro _ | rfl)
theorem pz_sample_c {z n : Int} : pzC (pz_sample z n α) := by
  unfold pz_sample
  repeat' (first | apply pzC_ite | apply pzC_elim | intro _ | exact Or.inl rfl | exact Or.inr rfl | exact Or.inr (Or.inl rfl) | exact Or.inr (Or.inr rfl))
theorem pz_frows_c {k : Int} : pzC1 (pz_frows k α) := by
  unfold pz_frows
  repeat' (first | apply pzC1_ite | apply pzC1_elim | intro _ | exact Or.inl rfl | exact Or.inr rfl | exact Or.inr (Or.inl rfl) | exact Or.inr (Or.inr rfl))
theorem pz_frows_r {k : Int} : (pz_frows k α).2.2 = α := by
  unfold pz_frows
  repeat' (first | apply pzR_ite | apply pzR_elim | intro _ | rfl)
theorem pz_flen_c {k x : Int} : pzC1 (pz_flen k x α) := by
  unfold pz_flen pz_len
  repeat' (first | apply pzC1_ite | apply pzC1_elim | intro _ | exact Or.inl rfl | exact Or.inr rfl | exact Or.inr (Or.inl rfl) | exact Or.inr (Or.inr rfl))
theorem pz_flen_r {k x : Int} : (pz_flen k x α).2.2 = α := by
  unfold pz_flen pz_len
  repeat' (first | apply pzR_ite | apply pzR_elim | intro _ | rfl)
theorem pz_fat_c {k x y : Int} : pzC1 (pz_fat k x y α) := by
  unfold pz_fat pz_at
  repeat' (first | apply pzC1_ite | apply pzC1_elim | intro _ | exact Or.inl rfl | exact Or.inr rfl | exact Or.inr (Or.inl rfl) | exact Or.inr (Or.inr rfl))
theorem pz_fat_r {k x y : Int} : (pz_fat k x y α).2.2 = α := by
  unfold pz_fat pz_at
  repeat' (first | apply pzR_ite | apply pzR_elim | intro _ | rfl)
theorem pz_find_c {back : Bool} : pzC1 (pz_find back α) := by
  unfold pz_find
  repeat' (first | apply pzC1_ite | apply pzC1_elim | intro _ | exact Or.inl rfl | exact Or.inr rfl | exact Or.inr (Or.inl rfl) | exact Or.inr (Or.inr rfl))
theorem pz_find_r {back : Bool} : (pz_find back α).2.2 = α := by
  unfold pz_find
  repeat' (first | apply pzR_ite | apply pzR_elim | intro _ | rfl)
theorem pz_fse_c {en : Bool} {x : Int} : pzC (pz_fse en x α) := by
  unfold pz_fse
  repeat' (first | apply pzC_ite | apply pzC_elim | intro _ | exact Or.inl rfl | exact Or.inr rfl | exact Or.inr (Or.inl rfl) | exact Or.inr (Or.inr rfl))
theorem pz_fse_r {en : Bool} {x : Int} : (pz_fse en x α).2.2 = α := by
  unfold pz_fse
  repeat' (first | apply pzR_ite | apply pzR_elim | intro _ | rfl)
theorem pz_differ_c {k : Int} : pzC1 (pz_differ k α) := by
  unfold pz_differ
  repeat' (first | apply pzC1_ite | apply pzC1_elim | intro _ | exact Or.inl rfl | exact Or.inr rfl | exact Or.inr (Or.inl rfl) | exact Or.inr (Or.inr rfl))
theorem pz_differ_r {k : Int} : (pz_differ k α).2.2 = α := by
  unfold pz_differ
  repeat' (first | apply pzR_ite | apply pzR_elim | intro _ | rfl)
theorem pz_pairOf_c {k x : Int} : pzC1 (pz_pairOf k x α) := by
  unfold pz_pairOf
  repeat' (first | apply pzC1_ite | apply pzC1_elim | intro _ | exact Or.inl rfl | exact Or.inr rfl | exact Or.inr (Or.inl rfl) | exact Or.inr (Or.inr rfl))
theorem pz_pairOf_r {k x : Int} : (pz_pairOf k x α).2.2 = α := by
  unfold pz_pairOf
  repeat' (first | apply pzR_ite | apply pzR_elim | intro _ | rfl)
theorem w_type {c0 : Int32} {R : pzR} (A : pwA h α) (t : jw_t h 619 = (23, 1)) (C : pzC R) (hC : pxW (f_X11_type h 0 c0) fun v h' => pwY "java/lang/IllegalArgumentException" "java/lang/IllegalStateException" h R v h') : pxW (f_L_type h (some 0) c0 (some 619)) fun w h' => pwU h R w h' := by
  unfold f_L_type
  rw [px_rc A.1.1, px_bs]
  refine pxW_b2 hC fun v h2 q => ?_
  cases v with
  | inl v => exact pwU_l t C q
  | inr E => exact pwU_r2 (by first | decide | simp) C q
theorem w_run {R : pzR} (A : pwA h α) (t : jw_t h 619 = (23, 1)) (C : pzC1 R) (hC : pxW (f_X11_run h 0) fun v h' => pwY "java/lang/IllegalStateException" "" h R v h') : pxW (f_L_run h (some 0) (some 619)) fun w h' => pwU h R w h' := by
  unfold f_L_run
  rw [px_rc A.1.1, px_bs]
  refine pxW_b2 hC fun v h2 q => ?_
  cases v with
  | inl v => exact pwU_l t C.to2 q
  | inr E => exact pwU_r1 C q
theorem w_keep {c0 : Int32} {R : pzR} (A : pwA h α) (t : jw_t h 619 = (23, 1)) (C : pzC R) (hC : pxW (f_X11_keep h 0 c0) fun v h' => pwY "java/lang/IndexOutOfBoundsException" "java/lang/IllegalStateException" h R v h') : pxW (f_L_keep h (some 0) c0 (some 619)) fun w h' => pwU h R w h' := by
  unfold f_L_keep
  rw [px_rc A.1.1, px_bs]
  refine pxW_b2 hC fun v h2 q => ?_
  cases v with
  | inl v => exact pwU_l t C q
  | inr E => exact pwU_r2 (by first | decide | simp) C q
theorem w_play {c0 : Int32} {R : pzR} (A : pwA h α) (t : jw_t h 619 = (23, 1)) (C : pzC R) (hC : pxW (f_X11_play h 0 c0) fun v h' => pwY "java/lang/IndexOutOfBoundsException" "java/lang/IllegalStateException" h R v h') : pxW (f_L_play h (some 0) c0 (some 619)) fun w h' => pwU h R w h' := by
  unfold f_L_play
  rw [px_rc A.1.1, px_bs]
  refine pxW_b2 hC fun v h2 q => ?_
  cases v with
  | inl v => exact pwU_l t C q
  | inr E => exact pwU_r2 (by first | decide | simp) C q
theorem w_stream {c0 : Int32} {R : pzR} (A : pwA h α) (t : jw_t h 619 = (23, 1)) (C : pzC R) (hC : pxW (f_X11_stream h 0 c0) fun v h' => pwY "java/lang/IndexOutOfBoundsException" "java/lang/IllegalStateException" h R v h') : pxW (f_L_stream h (some 0) c0 (some 619)) fun w h' => pwU h R w h' := by
  unfold f_L_stream
  rw [px_rc A.1.1, px_bs]
  refine pxW_b2 hC fun v h2 q => ?_
  cases v with
  | inl v => exact pwU_l t C q
  | inr E => exact pwU_r2 (by first | decide | simp) C q
theorem w_scriptLength {c0 : Int32} {R : pzR} (A : pwA h α) (t : jw_t h 619 = (23, 1)) (C : pzC1 R) (hC : pxW (f_X11_scriptLength h 0 c0) fun v h' => pwY "java/lang/IndexOutOfBoundsException" "" h R v h') : pxW (f_L_scriptLength h (some 0) c0 (some 619)) fun w h' => pwU h R w h' := by
  unfold f_L_scriptLength
  rw [px_rc A.1.1, px_bs]
  refine pxW_b2 hC fun v h2 q => ?_
  cases v with
  | inl v => exact pwU_l t C.to2 q
  | inr E => exact pwU_r1 C q
theorem w_scriptAt {c0 c1 : Int32} {R : pzR} (A : pwA h α) (t : jw_t h 619 = (23, 1)) (C : pzC1 R) (hC : pxW (f_X11_scriptAt h 0 c0 c1) fun v h' => pwY "java/lang/IndexOutOfBoundsException" "" h R v h') : pxW (f_L_scriptAt h (some 0) c0 c1 (some 619)) fun w h' => pwU h R w h' := by
  unfold f_L_scriptAt
  rw [px_rc A.1.1, px_bs]
  refine pxW_b2 hC fun v h2 q => ?_
  cases v with
  | inl v => exact pwU_l t C.to2 q
  | inr E => exact pwU_r1 C q
theorem w_undo {R : pzR} (A : pwA h α) (t : jw_t h 619 = (23, 1)) (C : pzC1 R) (hC : pxW (f_X11_undo h 0) fun v h' => pwY "java/lang/IllegalStateException" "" h R v h') : pxW (f_L_undo h (some 0) (some 619)) fun w h' => pwU h R w h' := by
  unfold f_L_undo
  rw [px_rc A.1.1, px_bs]
  refine pxW_b2 hC fun v h2 q => ?_
  cases v with
  | inl v => exact pwU_l t C.to2 q
  | inr E => exact pwU_r1 C q
theorem w_undoRun {R : pzR} (A : pwA h α) (t : jw_t h 619 = (23, 1)) (C : pzC1 R) (hC : pxW (f_X11_undoRun h 0) fun v h' => pwY "java/lang/IllegalStateException" "" h R v h') : pxW (f_L_undoRun h (some 0) (some 619)) fun w h' => pwU h R w h' := by
  unfold f_L_undoRun
  rw [px_rc A.1.1, px_bs]
  refine pxW_b2 hC fun v h2 q => ?_
  cases v with
  | inl v => exact pwU_l t C.to2 q
  | inr E => exact pwU_r1 C q
theorem w_length {c0 : Int32} {R : pzR} (A : pwA h α) (t : jw_t h 619 = (23, 1)) (C : pzC1 R) (hC : pxW (f_X11_length h 0 c0) fun v h' => pwY "java/lang/IndexOutOfBoundsException" "" h R v h') : pxW (f_L_length h (some 0) c0 (some 619)) fun w h' => pwU h R w h' := by
  unfold f_L_length
  rw [px_rc A.1.1, px_bs]
  refine pxW_b2 hC fun v h2 q => ?_
  cases v with
  | inl v => exact pwU_l t C.to2 q
  | inr E => exact pwU_r1 C q
theorem w_at {c0 c1 : Int32} {R : pzR} (A : pwA h α) (t : jw_t h 619 = (23, 1)) (C : pzC1 R) (hC : pxW (f_X11_at h 0 c0 c1) fun v h' => pwY "java/lang/IndexOutOfBoundsException" "" h R v h') : pxW (f_L_at h (some 0) c0 c1 (some 619)) fun w h' => pwU h R w h' := by
  unfold f_L_at
  rw [px_rc A.1.1, px_bs]
  refine pxW_b2 hC fun v h2 q => ?_
  cases v with
  | inl v => exact pwU_l t C.to2 q
  | inr E => exact pwU_r1 C q
theorem w_id {c0 : Int32} {R : pzR} (A : pwA h α) (t : jw_t h 619 = (23, 1)) (C : pzC1 R) (hC : pxW (f_X11_id h 0 c0) fun v h' => pwY "java/lang/IndexOutOfBoundsException" "" h R v h') : pxW (f_L_id h (some 0) c0 (some 619)) fun w h' => pwU h R w h' := by
  unfold f_L_id
  rw [px_rc A.1.1, px_bs]
  refine pxW_b2 hC fun v h2 q => ?_
  cases v with
  | inl v => exact pwU_l t C.to2 q
  | inr E => exact pwU_r1 C q
theorem w_mark {c0 : Int32} {R : pzR} (A : pwA h α) (t : jw_t h 619 = (23, 1)) (C : pzC1 R) (hC : pxW (f_X11_mark h 0 c0) fun v h' => pwY "java/lang/IndexOutOfBoundsException" "" h R v h') : pxW (f_L_mark h (some 0) c0 (some 619)) fun w h' => pwU h R w h' := by
  unfold f_L_mark
  rw [px_rc A.1.1, px_bs]
  refine pxW_b2 hC fun v h2 q => ?_
  cases v with
  | inl v => exact pwU_l t C.to2 q
  | inr E => exact pwU_r1 C q
theorem w_sample {c0 c1 : Int32} {R : pzR} (A : pwA h α) (t : jw_t h 619 = (23, 1)) (C : pzC R) (hC : pxW (f_X11_sample h 0 c0 c1) fun v h' => pwY "java/lang/IllegalArgumentException" "java/lang/IllegalStateException" h R v h') : pxW (f_L_sample h (some 0) c0 c1 (some 619)) fun w h' => pwU h R w h' := by
  unfold f_L_sample
  rw [px_rc A.1.1, px_bs]
  refine pxW_b2 hC fun v h2 q => ?_
  cases v with
  | inl v => exact pwU_l t C q
  | inr E => exact pwU_r2 (by first | decide | simp) C q
theorem w_heldLength {c0 : Int32} {R : pzR} (A : pwA h α) (t : jw_t h 619 = (23, 1)) (C : pzC1 R) (hC : pxW (f_X11_heldLength h 0 c0) fun v h' => pwY "java/lang/IndexOutOfBoundsException" "" h R v h') : pxW (f_L_heldLength h (some 0) c0 (some 619)) fun w h' => pwU h R w h' := by
  unfold f_L_heldLength
  rw [px_rc A.1.1, px_bs]
  refine pxW_b2 hC fun v h2 q => ?_
  cases v with
  | inl v => exact pwU_l t C.to2 q
  | inr E => exact pwU_r1 C q
theorem w_heldAt {c0 c1 : Int32} {R : pzR} (A : pwA h α) (t : jw_t h 619 = (23, 1)) (C : pzC1 R) (hC : pxW (f_X11_heldAt h 0 c0 c1) fun v h' => pwY "java/lang/IndexOutOfBoundsException" "" h R v h') : pxW (f_L_heldAt h (some 0) c0 c1 (some 619)) fun w h' => pwU h R w h' := by
  unfold f_L_heldAt
  rw [px_rc A.1.1, px_bs]
  refine pxW_b2 hC fun v h2 q => ?_
  cases v with
  | inl v => exact pwU_l t C.to2 q
  | inr E => exact pwU_r1 C q
theorem w_outLength {c0 : Int32} {R : pzR} (A : pwA h α) (t : jw_t h 619 = (23, 1)) (C : pzC1 R) (hC : pxW (f_X11_outLength h 0 c0) fun v h' => pwY "java/lang/IndexOutOfBoundsException" "" h R v h') : pxW (f_L_outLength h (some 0) c0 (some 619)) fun w h' => pwU h R w h' := by
  unfold f_L_outLength
  rw [px_rc A.1.1, px_bs]
  refine pxW_b2 hC fun v h2 q => ?_
  cases v with
  | inl v => exact pwU_l t C.to2 q
  | inr E => exact pwU_r1 C q
theorem w_outAt {c0 c1 : Int32} {R : pzR} (A : pwA h α) (t : jw_t h 619 = (23, 1)) (C : pzC1 R) (hC : pxW (f_X11_outAt h 0 c0 c1) fun v h' => pwY "java/lang/IndexOutOfBoundsException" "" h R v h') : pxW (f_L_outAt h (some 0) c0 c1 (some 619)) fun w h' => pwU h R w h' := by
  unfold f_L_outAt
  rw [px_rc A.1.1, px_bs]
  refine pxW_b2 hC fun v h2 q => ?_
  cases v with
  | inl v => exact pwU_l t C.to2 q
  | inr E => exact pwU_r1 C q
theorem w_fileRows {c0 : Int32} {R : pzR} (A : pwA h α) (t : jw_t h 619 = (23, 1)) (C : pzC1 R) (hC : pxW (f_X11_fileRows h 0 c0) fun v h' => pwY "java/lang/IndexOutOfBoundsException" "" h R v h') : pxW (f_L_fileRows h (some 0) c0 (some 619)) fun w h' => pwU h R w h' := by
  unfold f_L_fileRows
  rw [px_rc A.1.1, px_bs]
  refine pxW_b2 hC fun v h2 q => ?_
  cases v with
  | inl v => exact pwU_l t C.to2 q
  | inr E => exact pwU_r1 C q
theorem w_fileLength {c0 c1 : Int32} {R : pzR} (A : pwA h α) (t : jw_t h 619 = (23, 1)) (C : pzC1 R) (hC : pxW (f_X11_fileLength h 0 c0 c1) fun v h' => pwY "java/lang/IndexOutOfBoundsException" "" h R v h') : pxW (f_L_fileLength h (some 0) c0 c1 (some 619)) fun w h' => pwU h R w h' := by
  unfold f_L_fileLength
  rw [px_rc A.1.1, px_bs]
  refine pxW_b2 hC fun v h2 q => ?_
  cases v with
  | inl v => exact pwU_l t C.to2 q
  | inr E => exact pwU_r1 C q
theorem w_fileAt {c0 c1 c2 : Int32} {R : pzR} (A : pwA h α) (t : jw_t h 619 = (23, 1)) (C : pzC1 R) (hC : pxW (f_X11_fileAt h 0 c0 c1 c2) fun v h' => pwY "java/lang/IndexOutOfBoundsException" "" h R v h') : pxW (f_L_fileAt h (some 0) c0 c1 c2 (some 619)) fun w h' => pwU h R w h' := by
  unfold f_L_fileAt
  rw [px_rc A.1.1, px_bs]
  refine pxW_b2 hC fun v h2 q => ?_
  cases v with
  | inl v => exact pwU_l t C.to2 q
  | inr E => exact pwU_r1 C q
theorem w_find {c0 : Int32} {R : pzR} (A : pwA h α) (t : jw_t h 619 = (23, 1)) (C : pzC1 R) (hC : pxW (f_X11_find h 0 c0) fun v h' => pwY "java/lang/IllegalStateException" "" h R v h') : pxW (f_L_find h (some 0) c0 (some 619)) fun w h' => pwU h R w h' := by
  unfold f_L_find
  rw [px_rc A.1.1, px_bs]
  refine pxW_b2 hC fun v h2 q => ?_
  cases v with
  | inl v => exact pwU_l t C.to2 q
  | inr E => exact pwU_r1 C q
theorem w_findStart {c0 : Int32} {R : pzR} (A : pwA h α) (t : jw_t h 619 = (23, 1)) (C : pzC R) (hC : pxW (f_X11_findStart h 0 c0) fun v h' => pwY "java/lang/IndexOutOfBoundsException" "java/lang/IllegalStateException" h R v h') : pxW (f_L_findStart h (some 0) c0 (some 619)) fun w h' => pwU h R w h' := by
  unfold f_L_findStart
  rw [px_rc A.1.1, px_bs]
  refine pxW_b2 hC fun v h2 q => ?_
  cases v with
  | inl v => exact pwU_l t C q
  | inr E => exact pwU_r2 (by first | decide | simp) C q
theorem w_findEnd {c0 : Int32} {R : pzR} (A : pwA h α) (t : jw_t h 619 = (23, 1)) (C : pzC R) (hC : pxW (f_X11_findEnd h 0 c0) fun v h' => pwY "java/lang/IndexOutOfBoundsException" "java/lang/IllegalStateException" h R v h') : pxW (f_L_findEnd h (some 0) c0 (some 619)) fun w h' => pwU h R w h' := by
  unfold f_L_findEnd
  rw [px_rc A.1.1, px_bs]
  refine pxW_b2 hC fun v h2 q => ?_
  cases v with
  | inl v => exact pwU_l t C q
  | inr E => exact pwU_r2 (by first | decide | simp) C q
theorem w_differ {c0 : Int32} {R : pzR} (A : pwA h α) (t : jw_t h 619 = (23, 1)) (C : pzC1 R) (hC : pxW (f_X11_differ h 0 c0) fun v h' => pwY "java/lang/IndexOutOfBoundsException" "" h R v h') : pxW (f_L_differ h (some 0) c0 (some 619)) fun w h' => pwU h R w h' := by
  unfold f_L_differ
  rw [px_rc A.1.1, px_bs]
  refine pxW_b2 hC fun v h2 q => ?_
  cases v with
  | inl v => exact pwU_l t C.to2 q
  | inr E => exact pwU_r1 C q
theorem w_pairOf {c0 c1 : Int32} {R : pzR} (A : pwA h α) (t : jw_t h 619 = (23, 1)) (C : pzC1 R) (hC : pxW (f_X11_pairOf h 0 c0 c1) fun v h' => pwY "java/lang/IndexOutOfBoundsException" "" h R v h') : pxW (f_L_pairOf h (some 0) c0 c1 (some 619)) fun w h' => pwU h R w h' := by
  unfold f_L_pairOf
  rw [px_rc A.1.1, px_bs]
  refine pxW_b2 hC fun v h2 q => ?_
  cases v with
  | inl v => exact pwU_l t C.to2 q
  | inr E => exact pwU_r1 C q
end
/-! the branches of the law -/
section
variable {Ls : Nat} {xs : Nat → Int32} {k23 : jw_H → Nat → Nat → Option Nat → Int32 → Option (Int32 × jw_H)} {Q : Int32 → jw_H → Prop} {h : jw_H} {α : pzA} {n : Nat} {x : Int32}
theorem b_1916 {R : pzR} {h' : jw_H} (P : pL (n + 1) h' R.2.2) (next : ∀ (h' : jw_H) (α' : pzA), pL (n + 1) h' α' → pxW (k23 h' 0 587 (some 619) (x + (4 : Int32))) Q) : pxW (g_L_law_b1916 Ls xs k23 h' 0 587 (some 619) x) Q := next h' _ P
theorem b_204 (P : pL n h α) (n6 : (n : Int) + 1 ≤ 600) {p : Int} (e1 : jw_xs Ls xs (x + (1 : Int32)) = some (pxJ p)) (p0 : -2147483648 ≤ p) (p1 : p ≤ 2147483647) (next : ∀ (h' : jw_H) (α' : pzA), pL (n + 1) h' α' → pxW (k23 h' 0 587 (some 619) (x + (4 : Int32))) Q) : pxW (g_L_law_b204 Ls xs k23 h 0 587 (some 619) x) Q := by
  unfold g_L_law_b204
  simp only [e1, px_bs]
  refine pL_thr (R := pz_type p α) P (ok_type P.2.2.1 n6) pz_type_c (w_type P.1 P.2.2.2.2.1 pz_type_c (c_type P.1 P.2.2.1.1 p0 p1)) ?_ ?_
  · exact fun h2 B => n_type B P.2.2.1.1 p0 p1
  · exact fun h' P' => b_1916 P' next
theorem b_260 (P : pL n h α) (n6 : (n : Int) + 1 ≤ 600) (next : ∀ (h' : jw_H) (α' : pzA), pL (n + 1) h' α' → pxW (k23 h' 0 587 (some 619) (x + (4 : Int32))) Q) : pxW (g_L_law_b260 Ls xs k23 h 0 587 (some 619) x) Q := by
  unfold g_L_law_b260
  rw [px_rc P.1.1.1, px_bs]
  refine pL_nt (R := pz_wipe α) P (ok_wipe P.2.2.1 n6) (c_wipe P.1 ) ?_ ?_
  · exact fun h2 B => n_wipe B 
  · exact fun h' P' => b_1916 P' next
theorem b_273 (P : pL n h α) (n6 : (n : Int) + 1 ≤ 600) (next : ∀ (h' : jw_H) (α' : pzA), pL (n + 1) h' α' → pxW (k23 h' 0 587 (some 619) (x + (4 : Int32))) Q) : pxW (g_L_law_b273 Ls xs k23 h 0 587 (some 619) x) Q := by
  unfold g_L_law_b273
  rw [px_rc P.1.1.1, px_bs]
  refine pL_nt (R := pz_fault α) P (ok_rd P.2.2.1 n6 rfl) (c_fault P.1 P.2.2.1.1) ?_ ?_
  · exact fun h2 B => n_fault B P.2.2.1.1
  · exact fun h' P' => b_1916 P' next
theorem b_286 (P : pL n h α) (n6 : (n : Int) + 1 ≤ 600) (next : ∀ (h' : jw_H) (α' : pzA), pL (n + 1) h' α' → pxW (k23 h' 0 587 (some 619) (x + (4 : Int32))) Q) : pxW (g_L_law_b286 Ls xs k23 h 0 587 (some 619) x) Q := by
  unfold g_L_law_b286
  rw [px_rc P.1.1.1, px_bs]
  refine pL_nt (R := pz_pf α) P (ok_rd P.2.2.1 n6 rfl) (c_patternFault P.1 P.2.2.1.1) ?_ ?_
  · exact fun h2 B => n_patternFault B P.2.2.1.1
  · exact fun h' P' => b_1916 P' next
theorem b_299 (P : pL n h α) (n6 : (n : Int) + 1 ≤ 600) (next : ∀ (h' : jw_H) (α' : pzA), pL (n + 1) h' α' → pxW (k23 h' 0 587 (some 619) (x + (4 : Int32))) Q) : pxW (g_L_law_b299 Ls xs k23 h 0 587 (some 619) x) Q := by
  unfold g_L_law_b299
  refine pL_thr (R := pz_run α) P (ok_run P.1 P.2.2.1 n6) (pz_run_c).to2 (w_run P.1 P.2.2.2.2.1 pz_run_c (c_run P.1 P.2.2.1)) ?_ ?_
  · exact fun h2 B => n_run B P.2.2.1
  · exact fun h' P' => b_1916 P' next
theorem b_343 (P : pL n h α) (n6 : (n : Int) + 1 ≤ 600) {p : Int} (e1 : jw_xs Ls xs (x + (1 : Int32)) = some (pxJ p)) (p0 : -2147483648 ≤ p) (p1 : p ≤ 2147483647) (next : ∀ (h' : jw_H) (α' : pzA), pL (n + 1) h' α' → pxW (k23 h' 0 587 (some 619) (x + (4 : Int32))) Q) : pxW (g_L_law_b343 Ls xs k23 h 0 587 (some 619) x) Q := by
  unfold g_L_law_b343
  simp only [e1, px_bs]
  refine pL_thr (R := pz_keep p α) P (ok_keep P.2.2.1 n6) pz_keep_c (w_keep P.1 P.2.2.2.2.1 pz_keep_c (c_keep P.1 P.2.2.1.1 p0 p1)) ?_ ?_
  · exact fun h2 B => n_keep B P.2.2.1 p0 p1
  · exact fun h' P' => b_1916 P' next
theorem b_399 (P : pL n h α) (n6 : (n : Int) + 1 ≤ 600) {p : Int} (e1 : jw_xs Ls xs (x + (1 : Int32)) = some (pxJ p)) (p0 : -2147483648 ≤ p) (p1 : p ≤ 2147483647) (next : ∀ (h' : jw_H) (α' : pzA), pL (n + 1) h' α' → pxW (k23 h' 0 587 (some 619) (x + (4 : Int32))) Q) : pxW (g_L_law_b399 Ls xs k23 h 0 587 (some 619) x) Q := by
  unfold g_L_law_b399
  simp only [e1, px_bs]
  refine pL_thr (R := pz_play p α) P (ok_play P.1 P.2.2.1 n6) pz_play_c (w_play P.1 P.2.2.2.2.1 pz_play_c (c_play P.1 P.2.2.1 p0 p1)) ?_ ?_
  · exact fun h2 B => n_play B P.2.2.1 p0 p1
  · exact fun h' P' => b_1916 P' next
theorem b_455 (P : pL n h α) (n6 : (n : Int) + 1 ≤ 600) {p : Int} (e1 : jw_xs Ls xs (x + (1 : Int32)) = some (pxJ p)) (p0 : -2147483648 ≤ p) (p1 : p ≤ 2147483647) (next : ∀ (h' : jw_H) (α' : pzA), pL (n + 1) h' α' → pxW (k23 h' 0 587 (some 619) (x + (4 : Int32))) Q) : pxW (g_L_law_b455 Ls xs k23 h 0 587 (some 619) x) Q := by
  unfold g_L_law_b455
  simp only [e1, px_bs]
  refine pL_thr (R := pz_stream p α) P (ok_stream P.2.1 P.2.2.1 n6) pz_stream_c (w_stream P.1 P.2.2.2.2.1 pz_stream_c (c_stream P.1 P.2.2.1 p0 p1)) ?_ ?_
  · exact fun h2 B => n_stream B P.2.2.1 p0 p1
  · exact fun h' P' => b_1916 P' next
theorem b_511 (P : pL n h α) (n6 : (n : Int) + 1 ≤ 600) (next : ∀ (h' : jw_H) (α' : pzA), pL (n + 1) h' α' → pxW (k23 h' 0 587 (some 619) (x + (4 : Int32))) Q) : pxW (g_L_law_b511 Ls xs k23 h 0 587 (some 619) x) Q := by
  unfold g_L_law_b511
  rw [px_rc P.1.1.1, px_bs]
  refine pL_nt (R := pz_reason α) P (ok_rd P.2.2.1 n6 rfl) (c_reason P.1 ) ?_ ?_
  · exact fun h2 B => n_reason B 
  · exact fun h' P' => b_1916 P' next
theorem b_524 (P : pL n h α) (n6 : (n : Int) + 1 ≤ 600) {p : Int} (e1 : jw_xs Ls xs (x + (1 : Int32)) = some (pxJ p)) (p0 : -2147483648 ≤ p) (p1 : p ≤ 2147483647) (next : ∀ (h' : jw_H) (α' : pzA), pL (n + 1) h' α' → pxW (k23 h' 0 587 (some 619) (x + (4 : Int32))) Q) : pxW (g_L_law_b524 Ls xs k23 h 0 587 (some 619) x) Q := by
  unfold g_L_law_b524
  simp only [e1, px_bs]
  refine pL_thr (R := pz_scl p α) P (ok_rd P.2.2.1 n6 pz_scl_r) (pz_scl_c).to2 (w_scriptLength P.1 P.2.2.2.2.1 pz_scl_c (c_scriptLength P.1 p0 p1)) ?_ ?_
  · exact fun h2 B => n_scriptLength B p0 p1
  · exact fun h' P' => b_1916 P' next
theorem b_580 (P : pL n h α) (n6 : (n : Int) + 1 ≤ 600) {p : Int} (e1 : jw_xs Ls xs (x + (1 : Int32)) = some (pxJ p)) (p0 : -2147483648 ≤ p) (p1 : p ≤ 2147483647) {q : Int} (e2 : jw_xs Ls xs (x + (2 : Int32)) = some (pxJ q)) (q0 : -2147483648 ≤ q) (q1 : q ≤ 2147483647) (next : ∀ (h' : jw_H) (α' : pzA), pL (n + 1) h' α' → pxW (k23 h' 0 587 (some 619) (x + (4 : Int32))) Q) : pxW (g_L_law_b580 Ls xs k23 h 0 587 (some 619) x) Q := by
  unfold g_L_law_b580
  simp only [e1, e2, px_bs]
  refine pL_thr (R := pz_sca p q α) P (ok_rd P.2.2.1 n6 pz_sca_r) (pz_sca_c).to2 (w_scriptAt P.1 P.2.2.2.2.1 pz_sca_c (c_scriptAt P.1 P.2.2.1 p0 p1 q0 q1)) ?_ ?_
  · exact fun h2 B => n_scriptAt B P.2.2.1 p0 p1 q0 q1
  · exact fun h' P' => b_1916 P' next
theorem b_648 (P : pL n h α) (n6 : (n : Int) + 1 ≤ 600) (next : ∀ (h' : jw_H) (α' : pzA), pL (n + 1) h' α' → pxW (k23 h' 0 587 (some 619) (x + (4 : Int32))) Q) : pxW (g_L_law_b648 Ls xs k23 h 0 587 (some 619) x) Q := by
  unfold g_L_law_b648
  refine pL_thr (R := pz_undo α) P (ok_undo P.2.2.1 n6) (pz_undo_c).to2 (w_undo P.1 P.2.2.2.2.1 pz_undo_c (c_undo P.1 )) ?_ ?_
  · exact fun h2 B => n_undo B 
  · exact fun h' P' => b_1916 P' next
theorem b_692 (P : pL n h α) (n6 : (n : Int) + 1 ≤ 600) (next : ∀ (h' : jw_H) (α' : pzA), pL (n + 1) h' α' → pxW (k23 h' 0 587 (some 619) (x + (4 : Int32))) Q) : pxW (g_L_law_b692 Ls xs k23 h 0 587 (some 619) x) Q := by
  unfold g_L_law_b692
  refine pL_thr (R := pz_undoRun α) P (ok_undoRun P.2.2.1 n6) (pz_undoRun_c).to2 (w_undoRun P.1 P.2.2.2.2.1 pz_undoRun_c (c_undoRun P.1 (fun d hd => ((P.2.2.1.2.2.2.2.1) d hd).2))) ?_ ?_
  · exact fun h2 B => n_undoRun B (fun d hd => ((P.2.2.1.2.2.2.2.1) d hd).2)
  · exact fun h' P' => b_1916 P' next
theorem b_736 (P : pL n h α) (n6 : (n : Int) + 1 ≤ 600) (next : ∀ (h' : jw_H) (α' : pzA), pL (n + 1) h' α' → pxW (k23 h' 0 587 (some 619) (x + (4 : Int32))) Q) : pxW (g_L_law_b736 Ls xs k23 h 0 587 (some 619) x) Q := by
  unfold g_L_law_b736
  rw [px_rc P.1.1.1, px_bs]
  refine pL_nt (R := pz_deeds α) P (ok_rd P.2.2.1 n6 rfl) (c_deeds P.1 ) ?_ ?_
  · exact fun h2 B => n_deeds B 
  · exact fun h' P' => b_1916 P' next
theorem b_749 (P : pL n h α) (n6 : (n : Int) + 1 ≤ 600) (next : ∀ (h' : jw_H) (α' : pzA), pL (n + 1) h' α' → pxW (k23 h' 0 587 (some 619) (x + (4 : Int32))) Q) : pxW (g_L_law_b749 Ls xs k23 h 0 587 (some 619) x) Q := by
  unfold g_L_law_b749
  rw [px_rc P.1.1.1, px_bs]
  refine pL_nt (R := pz_lines α) P (ok_rd P.2.2.1 n6 rfl) (c_lines P.1 ) ?_ ?_
  · exact fun h2 B => n_lines B 
  · exact fun h' P' => b_1916 P' next
theorem b_762 (P : pL n h α) (n6 : (n : Int) + 1 ≤ 600) {p : Int} (e1 : jw_xs Ls xs (x + (1 : Int32)) = some (pxJ p)) (p0 : -2147483648 ≤ p) (p1 : p ≤ 2147483647) (next : ∀ (h' : jw_H) (α' : pzA), pL (n + 1) h' α' → pxW (k23 h' 0 587 (some 619) (x + (4 : Int32))) Q) : pxW (g_L_law_b762 Ls xs k23 h 0 587 (some 619) x) Q := by
  unfold g_L_law_b762
  simp only [e1, px_bs]
  refine pL_thr (R := pz_len (pxRs α.2.2.1.1) p α) P (ok_rd P.2.2.1 n6 pz_len_r) (pz_len_c).to2 (w_length P.1 P.2.2.2.2.1 pz_len_c (c_length P.1 p0 p1)) ?_ ?_
  · exact fun h2 B => n_length B p0 p1
  · exact fun h' P' => b_1916 P' next
theorem b_818 (P : pL n h α) (n6 : (n : Int) + 1 ≤ 600) {p : Int} (e1 : jw_xs Ls xs (x + (1 : Int32)) = some (pxJ p)) (p0 : -2147483648 ≤ p) (p1 : p ≤ 2147483647) {q : Int} (e2 : jw_xs Ls xs (x + (2 : Int32)) = some (pxJ q)) (q0 : -2147483648 ≤ q) (q1 : q ≤ 2147483647) (next : ∀ (h' : jw_H) (α' : pzA), pL (n + 1) h' α' → pxW (k23 h' 0 587 (some 619) (x + (4 : Int32))) Q) : pxW (g_L_law_b818 Ls xs k23 h 0 587 (some 619) x) Q := by
  unfold g_L_law_b818
  simp only [e1, e2, px_bs]
  refine pL_thr (R := pz_at (pxRs α.2.2.1.1) p q α) P (ok_rd P.2.2.1 n6 pz_at_r) (pz_at_c).to2 (w_at P.1 P.2.2.2.2.1 pz_at_c (c_at P.1 p0 p1 q0 q1)) ?_ ?_
  · exact fun h2 B => n_at B p0 p1 q0 q1
  · exact fun h' P' => b_1916 P' next
theorem b_886 (P : pL n h α) (n6 : (n : Int) + 1 ≤ 600) {p : Int} (e1 : jw_xs Ls xs (x + (1 : Int32)) = some (pxJ p)) (p0 : -2147483648 ≤ p) (p1 : p ≤ 2147483647) (next : ∀ (h' : jw_H) (α' : pzA), pL (n + 1) h' α' → pxW (k23 h' 0 587 (some 619) (x + (4 : Int32))) Q) : pxW (g_L_law_b886 Ls xs k23 h 0 587 (some 619) x) Q := by
  unfold g_L_law_b886
  simp only [e1, px_bs]
  refine pL_thr (R := pz_id p α) P (ok_rd P.2.2.1 n6 pz_id_r) (pz_id_c).to2 (w_id P.1 P.2.2.2.2.1 pz_id_c (c_id P.1 p0 p1)) ?_ ?_
  · exact fun h2 B => n_id B p0 p1
  · exact fun h' P' => b_1916 P' next
theorem b_942 (P : pL n h α) (n6 : (n : Int) + 1 ≤ 600) {p : Int} (e1 : jw_xs Ls xs (x + (1 : Int32)) = some (pxJ p)) (p0 : -2147483648 ≤ p) (p1 : p ≤ 2147483647) (next : ∀ (h' : jw_H) (α' : pzA), pL (n + 1) h' α' → pxW (k23 h' 0 587 (some 619) (x + (4 : Int32))) Q) : pxW (g_L_law_b942 Ls xs k23 h 0 587 (some 619) x) Q := by
  unfold g_L_law_b942
  simp only [e1, px_bs]
  rw [px_rc P.1.1.1, px_bs]
  refine pL_nt (R := pz_lineOf p α) P (ok_rd P.2.2.1 n6 rfl) (c_lineOf P.1 p0 p1) ?_ ?_
  · exact fun h2 B => n_lineOf B p0 p1
  · exact fun h' P' => b_1916 P' next
theorem b_967 (P : pL n h α) (n6 : (n : Int) + 1 ≤ 600) (next : ∀ (h' : jw_H) (α' : pzA), pL (n + 1) h' α' → pxW (k23 h' 0 587 (some 619) (x + (4 : Int32))) Q) : pxW (g_L_law_b967 Ls xs k23 h 0 587 (some 619) x) Q := by
  unfold g_L_law_b967
  rw [px_rc P.1.1.1, px_bs]
  refine pL_nt (R := pz_present α) P (ok_rd P.2.2.1 n6 rfl) (c_present P.1 ) ?_ ?_
  · exact fun h2 B => n_present B 
  · exact fun h' P' => b_1916 P' next
theorem b_980 (P : pL n h α) (n6 : (n : Int) + 1 ≤ 600) {p : Int} (e1 : jw_xs Ls xs (x + (1 : Int32)) = some (pxJ p)) (p0 : -2147483648 ≤ p) (p1 : p ≤ 2147483647) (next : ∀ (h' : jw_H) (α' : pzA), pL (n + 1) h' α' → pxW (k23 h' 0 587 (some 619) (x + (4 : Int32))) Q) : pxW (g_L_law_b980 Ls xs k23 h 0 587 (some 619) x) Q := by
  unfold g_L_law_b980
  simp only [e1, px_bs]
  refine pL_thr (R := pz_mark p α) P (ok_rd P.2.2.1 n6 pz_mark_r) (pz_mark_c).to2 (w_mark P.1 P.2.2.2.2.1 pz_mark_c (c_mark P.1 p0 p1)) ?_ ?_
  · exact fun h2 B => n_mark B P.2.2.1.2.2.1 P.nb p0 p1
  · exact fun h' P' => b_1916 P' next
theorem b_1036 (P : pL n h α) (n6 : (n : Int) + 1 ≤ 600) {p : Int} (e1 : jw_xs Ls xs (x + (1 : Int32)) = some (pxJ p)) (p0 : -2147483648 ≤ p) (p1 : p ≤ 2147483647) {q : Int} (e2 : jw_xs Ls xs (x + (2 : Int32)) = some (pxJ q)) (q0 : -2147483648 ≤ q) (q1 : q ≤ 2147483647) (next : ∀ (h' : jw_H) (α' : pzA), pL (n + 1) h' α' → pxW (k23 h' 0 587 (some 619) (x + (4 : Int32))) Q) : pxW (g_L_law_b1036 Ls xs k23 h 0 587 (some 619) x) Q := by
  unfold g_L_law_b1036
  simp only [e1, e2, px_bs]
  refine pL_thr (R := pz_sample p q α) P (ok_sample P.2.2.1 n6) pz_sample_c (w_sample P.1 P.2.2.2.2.1 pz_sample_c (c_sample P.1 P.2.2.2.1 P.2.2.1.2.2.1 P.c0 P.c1 P.nb1 p0 p1 q0 q1)) ?_ ?_
  · exact fun h2 B => n_sample B P.2.2.1.2.2.1 P.c1 P.nb1 p0 p1 q0 q1 P.c0
  · exact fun h' P' => b_1916 P' next
theorem b_1104 (P : pL n h α) (n6 : (n : Int) + 1 ≤ 600) (next : ∀ (h' : jw_H) (α' : pzA), pL (n + 1) h' α' → pxW (k23 h' 0 587 (some 619) (x + (4 : Int32))) Q) : pxW (g_L_law_b1104 Ls xs k23 h 0 587 (some 619) x) Q := by
  unfold g_L_law_b1104
  rw [px_rc P.1.1.1, px_bs]
  refine pL_nt (R := pz_held α) P (ok_rd P.2.2.1 n6 rfl) (c_held P.1 ) ?_ ?_
  · exact fun h2 B => n_held B 
  · exact fun h' P' => b_1916 P' next
theorem b_1117 (P : pL n h α) (n6 : (n : Int) + 1 ≤ 600) {p : Int} (e1 : jw_xs Ls xs (x + (1 : Int32)) = some (pxJ p)) (p0 : -2147483648 ≤ p) (p1 : p ≤ 2147483647) (next : ∀ (h' : jw_H) (α' : pzA), pL (n + 1) h' α' → pxW (k23 h' 0 587 (some 619) (x + (4 : Int32))) Q) : pxW (g_L_law_b1117 Ls xs k23 h 0 587 (some 619) x) Q := by
  unfold g_L_law_b1117
  simp only [e1, px_bs]
  refine pL_thr (R := pz_len α.2.2.2.1.1 p α) P (ok_rd P.2.2.1 n6 pz_len_r) (pz_len_c).to2 (w_heldLength P.1 P.2.2.2.2.1 pz_len_c (c_heldLength P.1 p0 p1)) ?_ ?_
  · exact fun h2 B => n_heldLength B p0 p1
  · exact fun h' P' => b_1916 P' next
theorem b_1173 (P : pL n h α) (n6 : (n : Int) + 1 ≤ 600) {p : Int} (e1 : jw_xs Ls xs (x + (1 : Int32)) = some (pxJ p)) (p0 : -2147483648 ≤ p) (p1 : p ≤ 2147483647) {q : Int} (e2 : jw_xs Ls xs (x + (2 : Int32)) = some (pxJ q)) (q0 : -2147483648 ≤ q) (q1 : q ≤ 2147483647) (next : ∀ (h' : jw_H) (α' : pzA), pL (n + 1) h' α' → pxW (k23 h' 0 587 (some 619) (x + (4 : Int32))) Q) : pxW (g_L_law_b1173 Ls xs k23 h 0 587 (some 619) x) Q := by
  unfold g_L_law_b1173
  simp only [e1, e2, px_bs]
  refine pL_thr (R := pz_at α.2.2.2.1.1 p q α) P (ok_rd P.2.2.1 n6 pz_at_r) (pz_at_c).to2 (w_heldAt P.1 P.2.2.2.2.1 pz_at_c (c_heldAt P.1 p0 p1 q0 q1)) ?_ ?_
  · exact fun h2 B => n_heldAt B p0 p1 q0 q1
  · exact fun h' P' => b_1916 P' next
theorem b_1241 (P : pL n h α) (n6 : (n : Int) + 1 ≤ 600) (next : ∀ (h' : jw_H) (α' : pzA), pL (n + 1) h' α' → pxW (k23 h' 0 587 (some 619) (x + (4 : Int32))) Q) : pxW (g_L_law_b1241 Ls xs k23 h 0 587 (some 619) x) Q := by
  unfold g_L_law_b1241
  rw [px_rc P.1.1.1, px_bs]
  refine pL_nt (R := pz_outs α) P (ok_rd P.2.2.1 n6 rfl) (c_outs P.1 ) ?_ ?_
  · exact fun h2 B => n_outs B 
  · exact fun h' P' => b_1916 P' next
theorem b_1254 (P : pL n h α) (n6 : (n : Int) + 1 ≤ 600) {p : Int} (e1 : jw_xs Ls xs (x + (1 : Int32)) = some (pxJ p)) (p0 : -2147483648 ≤ p) (p1 : p ≤ 2147483647) (next : ∀ (h' : jw_H) (α' : pzA), pL (n + 1) h' α' → pxW (k23 h' 0 587 (some 619) (x + (4 : Int32))) Q) : pxW (g_L_law_b1254 Ls xs k23 h 0 587 (some 619) x) Q := by
  unfold g_L_law_b1254
  simp only [e1, px_bs]
  refine pL_thr (R := pz_len α.2.2.2.1.2.1 p α) P (ok_rd P.2.2.1 n6 pz_len_r) (pz_len_c).to2 (w_outLength P.1 P.2.2.2.2.1 pz_len_c (c_outLength P.1 p0 p1)) ?_ ?_
  · exact fun h2 B => n_outLength B p0 p1
  · exact fun h' P' => b_1916 P' next
theorem b_1310 (P : pL n h α) (n6 : (n : Int) + 1 ≤ 600) {p : Int} (e1 : jw_xs Ls xs (x + (1 : Int32)) = some (pxJ p)) (p0 : -2147483648 ≤ p) (p1 : p ≤ 2147483647) {q : Int} (e2 : jw_xs Ls xs (x + (2 : Int32)) = some (pxJ q)) (q0 : -2147483648 ≤ q) (q1 : q ≤ 2147483647) (next : ∀ (h' : jw_H) (α' : pzA), pL (n + 1) h' α' → pxW (k23 h' 0 587 (some 619) (x + (4 : Int32))) Q) : pxW (g_L_law_b1310 Ls xs k23 h 0 587 (some 619) x) Q := by
  unfold g_L_law_b1310
  simp only [e1, e2, px_bs]
  refine pL_thr (R := pz_at α.2.2.2.1.2.1 p q α) P (ok_rd P.2.2.1 n6 pz_at_r) (pz_at_c).to2 (w_outAt P.1 P.2.2.2.2.1 pz_at_c (c_outAt P.1 p0 p1 q0 q1)) ?_ ?_
  · exact fun h2 B => n_outAt B p0 p1 q0 q1
  · exact fun h' P' => b_1916 P' next
theorem b_1378 (P : pL n h α) (n6 : (n : Int) + 1 ≤ 600) (next : ∀ (h' : jw_H) (α' : pzA), pL (n + 1) h' α' → pxW (k23 h' 0 587 (some 619) (x + (4 : Int32))) Q) : pxW (g_L_law_b1378 Ls xs k23 h 0 587 (some 619) x) Q := by
  unfold g_L_law_b1378
  rw [px_rc P.1.1.1, px_bs]
  refine pL_nt (R := pz_clearOut α) P (ok_clearOut P.2.2.1 n6) (c_clearOut P.1 ) ?_ ?_
  · exact fun h2 B => n_clearOut B 
  · exact fun h' P' => b_1916 P' next
theorem b_1391 (P : pL n h α) (n6 : (n : Int) + 1 ≤ 600) {p : Int} (e1 : jw_xs Ls xs (x + (1 : Int32)) = some (pxJ p)) (p0 : -2147483648 ≤ p) (p1 : p ≤ 2147483647) (next : ∀ (h' : jw_H) (α' : pzA), pL (n + 1) h' α' → pxW (k23 h' 0 587 (some 619) (x + (4 : Int32))) Q) : pxW (g_L_law_b1391 Ls xs k23 h 0 587 (some 619) x) Q := by
  unfold g_L_law_b1391
  simp only [e1, px_bs]
  refine pL_thr (R := pz_frows p α) P (ok_rd P.2.2.1 n6 pz_frows_r) (pz_frows_c).to2 (w_fileRows P.1 P.2.2.2.2.1 pz_frows_c (c_fileRows P.1 p0 p1)) ?_ ?_
  · exact fun h2 B => n_fileRows B p0 p1
  · exact fun h' P' => b_1916 P' next
theorem b_1447 (P : pL n h α) (n6 : (n : Int) + 1 ≤ 600) {p : Int} (e1 : jw_xs Ls xs (x + (1 : Int32)) = some (pxJ p)) (p0 : -2147483648 ≤ p) (p1 : p ≤ 2147483647) {q : Int} (e2 : jw_xs Ls xs (x + (2 : Int32)) = some (pxJ q)) (q0 : -2147483648 ≤ q) (q1 : q ≤ 2147483647) (next : ∀ (h' : jw_H) (α' : pzA), pL (n + 1) h' α' → pxW (k23 h' 0 587 (some 619) (x + (4 : Int32))) Q) : pxW (g_L_law_b1447 Ls xs k23 h 0 587 (some 619) x) Q := by
  unfold g_L_law_b1447
  simp only [e1, e2, px_bs]
  refine pL_thr (R := pz_flen p q α) P (ok_rd P.2.2.1 n6 pz_flen_r) (pz_flen_c).to2 (w_fileLength P.1 P.2.2.2.2.1 pz_flen_c (c_fileLength P.1 p0 p1 q0 q1)) ?_ ?_
  · exact fun h2 B => n_fileLength B p0 p1 q0 q1
  · exact fun h' P' => b_1916 P' next
theorem b_1515 (P : pL n h α) (n6 : (n : Int) + 1 ≤ 600) {p : Int} (e1 : jw_xs Ls xs (x + (1 : Int32)) = some (pxJ p)) (p0 : -2147483648 ≤ p) (p1 : p ≤ 2147483647) {q : Int} (e2 : jw_xs Ls xs (x + (2 : Int32)) = some (pxJ q)) (q0 : -2147483648 ≤ q) (q1 : q ≤ 2147483647) {r : Int} (e3 : jw_xs Ls xs (x + (3 : Int32)) = some (pxJ r)) (r0 : -2147483648 ≤ r) (r1 : r ≤ 2147483647) (next : ∀ (h' : jw_H) (α' : pzA), pL (n + 1) h' α' → pxW (k23 h' 0 587 (some 619) (x + (4 : Int32))) Q) : pxW (g_L_law_b1515 Ls xs k23 h 0 587 (some 619) x) Q := by
  unfold g_L_law_b1515
  simp only [e1, e2, e3, px_bs]
  refine pL_thr (R := pz_fat p q r α) P (ok_rd P.2.2.1 n6 pz_fat_r) (pz_fat_c).to2 (w_fileAt P.1 P.2.2.2.2.1 pz_fat_c (c_fileAt P.1 p0 p1 q0 q1 r0 r1)) ?_ ?_
  · exact fun h2 B => n_fileAt B p0 p1 q0 q1 r0 r1
  · exact fun h' P' => b_1916 P' next
theorem b_1610 {b : Bool} {p : Int} (P : pL n h α) (n6 : (n : Int) + 1 ≤ 600) (e1 : jw_xs Ls xs (x + (1 : Int32)) = some (pxJ p)) (eb : (pxJ p = 0) = (b = false)) (next : ∀ (h' : jw_H) (α' : pzA), pL (n + 1) h' α' → pxW (k23 h' 0 587 (some 619) (x + (4 : Int32))) Q) : pxW (g_L_law_b1610 Ls xs k23 h 0 587 (some 619) x 0 (pxJ (if b = true then 1 else 0))) Q := by
  unfold g_L_law_b1610
  simp only [e1, px_bs]
  have e : (fun (w2 : Int32) (h1 : jw_H) => if pxJ p = 0 then g_L_law_b1631 Ls xs k23 h1 0 587 (some 619) x w2 587 (0 : Int32) else g_L_law_b1631 Ls xs k23 h1 0 587 (some 619) x w2 587 (1 : Int32)) = fun (w2 : Int32) (h1 : jw_H) => g_L_law_b1631 Ls xs k23 h1 0 587 (some 619) x w2 587 (pxJ (if b = true then 1 else 0)) := by
    funext w2 h1
    by_cases c : pxJ p = 0
    · have d : b = false := eb.mp c
      rw [if_pos c, d]
      rfl
    · have d : b = true := by
        cases b with
        | true => rfl
        | false => exact absurd (eb.mpr rfl) c
      rw [if_neg c, d]
      rfl
  rw [e]
  unfold g_L_law_b1631
  refine pL_thr (R := pz_find b α) P (ok_rd P.2.2.1 n6 pz_find_r) (pz_find_c).to2 (w_find P.1 P.2.2.2.2.1 pz_find_c (c_find P.1 P.2.2.1.1 P.2.2.1.2.2.1)) ?_ ?_
  · exact fun h2 B => n_find B P.2.2.1
  · exact fun h' P' => b_1916 P' next
theorem b_1595 (P : pL n h α) (n6 : (n : Int) + 1 ≤ 600) {p : Int} (e1 : jw_xs Ls xs (x + (1 : Int32)) = some (pxJ p)) (p0 : -2147483648 ≤ p) (p1 : p ≤ 2147483647) (next : ∀ (h' : jw_H) (α' : pzA), pL (n + 1) h' α' → pxW (k23 h' 0 587 (some 619) (x + (4 : Int32))) Q) : pxW (g_L_law_b1595 Ls xs k23 h 0 587 (some 619) x) Q := by
  unfold g_L_law_b1595
  rw [e1, px_bs]
  by_cases c : pxJ p = 0
  · rw [if_pos c]
    exact b_1610 (b := false) P n6 e1 (propext ⟨fun _ => rfl, fun _ => c⟩) next
  · rw [if_neg c]
    exact b_1610 (b := true) P n6 e1 (propext ⟨fun z => absurd z c, fun z => absurd z (by decide)⟩) next
theorem b_1667 (P : pL n h α) (n6 : (n : Int) + 1 ≤ 600) {p : Int} (e1 : jw_xs Ls xs (x + (1 : Int32)) = some (pxJ p)) (p0 : -2147483648 ≤ p) (p1 : p ≤ 2147483647) (next : ∀ (h' : jw_H) (α' : pzA), pL (n + 1) h' α' → pxW (k23 h' 0 587 (some 619) (x + (4 : Int32))) Q) : pxW (g_L_law_b1667 Ls xs k23 h 0 587 (some 619) x) Q := by
  unfold g_L_law_b1667
  simp only [e1, px_bs]
  refine pL_thr (R := pz_fse false p α) P (ok_rd P.2.2.1 n6 pz_fse_r) pz_fse_c (w_findStart P.1 P.2.2.2.2.1 pz_fse_c (c_findStart P.1 P.2.2.1.1 p0 p1)) ?_ ?_
  · exact fun h2 B => n_findStart B P.2.2.1 p0 p1
  · exact fun h' P' => b_1916 P' next
theorem b_1723 (P : pL n h α) (n6 : (n : Int) + 1 ≤ 600) {p : Int} (e1 : jw_xs Ls xs (x + (1 : Int32)) = some (pxJ p)) (p0 : -2147483648 ≤ p) (p1 : p ≤ 2147483647) (next : ∀ (h' : jw_H) (α' : pzA), pL (n + 1) h' α' → pxW (k23 h' 0 587 (some 619) (x + (4 : Int32))) Q) : pxW (g_L_law_b1723 Ls xs k23 h 0 587 (some 619) x) Q := by
  unfold g_L_law_b1723
  simp only [e1, px_bs]
  refine pL_thr (R := pz_fse true p α) P (ok_rd P.2.2.1 n6 pz_fse_r) pz_fse_c (w_findEnd P.1 P.2.2.2.2.1 pz_fse_c (c_findEnd P.1 P.2.2.1.1 p0 p1)) ?_ ?_
  · exact fun h2 B => n_findEnd B P.2.2.1 p0 p1
  · exact fun h' P' => b_1916 P' next
theorem b_1779 (P : pL n h α) (n6 : (n : Int) + 1 ≤ 600) {p : Int} (e1 : jw_xs Ls xs (x + (1 : Int32)) = some (pxJ p)) (p0 : -2147483648 ≤ p) (p1 : p ≤ 2147483647) (next : ∀ (h' : jw_H) (α' : pzA), pL (n + 1) h' α' → pxW (k23 h' 0 587 (some 619) (x + (4 : Int32))) Q) : pxW (g_L_law_b1779 Ls xs k23 h 0 587 (some 619) x) Q := by
  unfold g_L_law_b1779
  simp only [e1, px_bs]
  refine pL_thr (R := pz_differ p α) P (ok_rd P.2.2.1 n6 pz_differ_r) (pz_differ_c).to2 (w_differ P.1 P.2.2.2.2.1 pz_differ_c (c_differ P.1 p0 p1)) ?_ ?_
  · exact fun h2 B => n_differ B p0 p1
  · exact fun h' P' => b_1916 P' next
theorem b_1835 (P : pL n h α) (n6 : (n : Int) + 1 ≤ 600) {p : Int} (e1 : jw_xs Ls xs (x + (1 : Int32)) = some (pxJ p)) (p0 : -2147483648 ≤ p) (p1 : p ≤ 2147483647) {q : Int} (e2 : jw_xs Ls xs (x + (2 : Int32)) = some (pxJ q)) (q0 : -2147483648 ≤ q) (q1 : q ≤ 2147483647) (next : ∀ (h' : jw_H) (α' : pzA), pL (n + 1) h' α' → pxW (k23 h' 0 587 (some 619) (x + (4 : Int32))) Q) : pxW (g_L_law_b1835 Ls xs k23 h 0 587 (some 619) x) Q := by
  unfold g_L_law_b1835
  simp only [e1, e2, px_bs]
  refine pL_thr (R := pz_pairOf p q α) P (ok_rd P.2.2.1 n6 pz_pairOf_r) (pz_pairOf_c).to2 (w_pairOf P.1 P.2.2.2.2.1 pz_pairOf_c (c_pairOf P.1 p0 p1 q0 q1)) ?_ ?_
  · exact fun h2 B => n_pairOf B p0 p1 q0 q1
  · exact fun h' P' => b_1916 P' next
theorem b_1903 (P : pL n h α) (n6 : (n : Int) + 1 ≤ 600) (next : ∀ (h' : jw_H) (α' : pzA), pL (n + 1) h' α' → pxW (k23 h' 0 587 (some 619) (x + (4 : Int32))) Q) : pxW (g_L_law_b1903 Ls xs k23 h 0 587 (some 619) x) Q := by
  unfold g_L_law_b1903
  rw [px_rc P.1.1.1, px_bs]
  refine pL_nt (R := pz_isSound α) P (ok_rd P.2.2.1 n6 rfl) (c_isSound P.1 P.2.2.1.2.2.1 P.nb) ?_ ?_
  · exact fun h2 B => n_isSound B P.2.2.1.2.2.1 P.nb
  · exact fun h' P' => b_1916 P' next
end
/-! the law's loop -/
theorem px_xs {Ls : Nat} {xs : Nat → Int32} {z : Int} (h0 : 0 ≤ z) (h1 : z < Ls) (h2 : Ls ≤ 2048) : ∃ p : Int, jw_xs Ls xs (pxJ z) = some (pxJ p) ∧ -2147483648 ≤ p ∧ p ≤ 2147483647 := by
  obtain ⟨p, e, p0, p1⟩ := pxJ_in (xs z.toNat)
  refine ⟨p, ?_, p0, p1⟩
  unfold jw_xs
  rw [pxJ_cl (by omega) (by omega), if_neg, e]
  intro y
  rcases y with y | y
  · have := (pxJ_lt (a := z) (b := 0) (by omega) (by omega) (by omega) (by omega)).mp y
    omega
  · omega
section
variable {Ls : Nat} {xs : Nat → Int32}
set_option maxHeartbeats 4000000 in
theorem law_b23 (hL : Ls ≤ 2048) : ∀ (m N : Nat) (h : jw_H) (α : pzA) (n : Nat), n + m = Ls / 4 → m < N → pL n h α →
    pxW (f_L_law_b23 Ls xs N h 0 587 (some 619) (pxJ (4 * (n : Int)))) fun r h' => r = 1 ∧ jw_c h' ≤ 601024 ∧ jw_s h' ≤ 7293034 := by
  intro m
  induction m with
  | zero =>
    intro N h α n hn hN P
    obtain ⟨N, rfl, -⟩ := px_fu hN
    obtain ⟨-, -, -, p4, p5, p6, p7⟩ := P
    rw [u_L_law_b23]
    unfold g_L_law_b23
    rw [pxJ_ofNat, show pxJ (Ls : Int) - (4 : Int32) = pxJ ((Ls : Int) - 4) from pxJ_sub _ 4, if_pos (show pxJ ((Ls : Int) - 4) < pxJ (4 * (n : Int)) from (pxJ_lt (by omega) (by omega) (by omega) (by omega)).mpr (by omega))]
    exact pxW_some.mpr ⟨rfl, by omega, by omega⟩
  | succ m ih =>
    intro N h α n hn hN P
    obtain ⟨N, rfl, hN⟩ := px_fu hN
    have n6 : (n : Int) + 1 ≤ 600 := by omega
    have go : ∀ (h' : jw_H) (α' : pzA), pL (n + 1) h' α' → pxW (f_L_law_b23 Ls xs N h' 0 587 (some 619) (pxJ (4 * (n : Int)) + (4 : Int32))) fun r h' => r = 1 ∧ jw_c h' ≤ 601024 ∧ jw_s h' ≤ 7293034 := fun h' α' P' => by
      rw [show pxJ (4 * (n : Int)) + (4 : Int32) = pxJ (4 * ((n + 1 : Nat) : Int)) by rw [show (4 : Int32) = pxJ 4 from rfl, pxJ_add, show 4 * (n : Int) + 4 = 4 * ((n + 1 : Nat) : Int) by omega]]
      exact ih N h' α' (n + 1) (by omega) (by omega) P'
    obtain ⟨w, e0, w0, w1⟩ := px_xs (xs := xs) (z := 4 * (n : Int)) (by omega) (by omega) hL
    obtain ⟨p, e1, p0, p1⟩ := px_xs (xs := xs) (z := 4 * (n : Int) + 1) (by omega) (by omega) hL
    obtain ⟨q, e2, q0, q1⟩ := px_xs (xs := xs) (z := 4 * (n : Int) + 2) (by omega) (by omega) hL
    obtain ⟨r, e3, r0, r1⟩ := px_xs (xs := xs) (z := 4 * (n : Int) + 3) (by omega) (by omega) hL
    rw [show pxJ (4 * (n : Int) + 1) = pxJ (4 * (n : Int)) + (1 : Int32) from (pxJ_add _ 1).symm] at e1
    rw [show pxJ (4 * (n : Int) + 2) = pxJ (4 * (n : Int)) + (2 : Int32) from (pxJ_add _ 2).symm] at e2
    rw [show pxJ (4 * (n : Int) + 3) = pxJ (4 * (n : Int)) + (3 : Int32) from (pxJ_add _ 3).symm] at e3
    rw [u_L_law_b23]
    unfold g_L_law_b23
    rw [pxJ_ofNat, show pxJ (Ls : Int) - (4 : Int32) = pxJ ((Ls : Int) - 4) from pxJ_sub _ 4, if_neg (show ¬ (pxJ ((Ls : Int) - 4) < pxJ (4 * (n : Int))) from fun z => by
      have := (pxJ_lt (a := (Ls : Int) - 4) (b := 4 * (n : Int)) (by omega) (by omega) (by omega) (by omega)).mp z
      omega), e0, px_bs]
    by_cases c0 : (pxJ w &&& (63 : Int32)) = (0 : Int32)
    · rw [if_pos c0]
      exact b_204 P n6 e1 p0 p1 go
    rw [if_neg c0]
    clear c0
    by_cases c1 : (pxJ w &&& (63 : Int32)) = (1 : Int32)
    · rw [if_pos c1]
      exact b_260 P n6 go
    rw [if_neg c1]
    clear c1
    by_cases c2 : (pxJ w &&& (63 : Int32)) = (2 : Int32)
    · rw [if_pos c2]
      exact b_273 P n6 go
    rw [if_neg c2]
    clear c2
    by_cases c3 : (pxJ w &&& (63 : Int32)) = (3 : Int32)
    · rw [if_pos c3]
      exact b_286 P n6 go
    rw [if_neg c3]
    clear c3
    by_cases c4 : (pxJ w &&& (63 : Int32)) = (4 : Int32)
    · rw [if_pos c4]
      exact b_299 P n6 go
    rw [if_neg c4]
    clear c4
    by_cases c5 : (pxJ w &&& (63 : Int32)) = (5 : Int32)
    · rw [if_pos c5]
      exact b_343 P n6 e1 p0 p1 go
    rw [if_neg c5]
    clear c5
    by_cases c6 : (pxJ w &&& (63 : Int32)) = (6 : Int32)
    · rw [if_pos c6]
      exact b_399 P n6 e1 p0 p1 go
    rw [if_neg c6]
    clear c6
    by_cases c7 : (pxJ w &&& (63 : Int32)) = (7 : Int32)
    · rw [if_pos c7]
      exact b_455 P n6 e1 p0 p1 go
    rw [if_neg c7]
    clear c7
    by_cases c8 : (pxJ w &&& (63 : Int32)) = (8 : Int32)
    · rw [if_pos c8]
      exact b_511 P n6 go
    rw [if_neg c8]
    clear c8
    by_cases c9 : (pxJ w &&& (63 : Int32)) = (9 : Int32)
    · rw [if_pos c9]
      exact b_524 P n6 e1 p0 p1 go
    rw [if_neg c9]
    clear c9
    by_cases c10 : (pxJ w &&& (63 : Int32)) = (10 : Int32)
    · rw [if_pos c10]
      exact b_580 P n6 e1 p0 p1 e2 q0 q1 go
    rw [if_neg c10]
    clear c10
    by_cases c11 : (pxJ w &&& (63 : Int32)) = (11 : Int32)
    · rw [if_pos c11]
      exact b_648 P n6 go
    rw [if_neg c11]
    clear c11
    by_cases c12 : (pxJ w &&& (63 : Int32)) = (12 : Int32)
    · rw [if_pos c12]
      exact b_692 P n6 go
    rw [if_neg c12]
    clear c12
    by_cases c13 : (pxJ w &&& (63 : Int32)) = (13 : Int32)
    · rw [if_pos c13]
      exact b_736 P n6 go
    rw [if_neg c13]
    clear c13
    by_cases c14 : (pxJ w &&& (63 : Int32)) = (14 : Int32)
    · rw [if_pos c14]
      exact b_749 P n6 go
    rw [if_neg c14]
    clear c14
    by_cases c15 : (pxJ w &&& (63 : Int32)) = (15 : Int32)
    · rw [if_pos c15]
      exact b_762 P n6 e1 p0 p1 go
    rw [if_neg c15]
    clear c15
    by_cases c16 : (pxJ w &&& (63 : Int32)) = (16 : Int32)
    · rw [if_pos c16]
      exact b_818 P n6 e1 p0 p1 e2 q0 q1 go
    rw [if_neg c16]
    clear c16
    by_cases c17 : (pxJ w &&& (63 : Int32)) = (17 : Int32)
    · rw [if_pos c17]
      exact b_886 P n6 e1 p0 p1 go
    rw [if_neg c17]
    clear c17
    by_cases c18 : (pxJ w &&& (63 : Int32)) = (18 : Int32)
    · rw [if_pos c18]
      exact b_942 P n6 e1 p0 p1 go
    rw [if_neg c18]
    clear c18
    by_cases c19 : (pxJ w &&& (63 : Int32)) = (19 : Int32)
    · rw [if_pos c19]
      exact b_967 P n6 go
    rw [if_neg c19]
    clear c19
    by_cases c20 : (pxJ w &&& (63 : Int32)) = (20 : Int32)
    · rw [if_pos c20]
      exact b_980 P n6 e1 p0 p1 go
    rw [if_neg c20]
    clear c20
    by_cases c21 : (pxJ w &&& (63 : Int32)) = (21 : Int32)
    · rw [if_pos c21]
      exact b_1036 P n6 e1 p0 p1 e2 q0 q1 go
    rw [if_neg c21]
    clear c21
    by_cases c22 : (pxJ w &&& (63 : Int32)) = (22 : Int32)
    · rw [if_pos c22]
      exact b_1104 P n6 go
    rw [if_neg c22]
    clear c22
    by_cases c23 : (pxJ w &&& (63 : Int32)) = (23 : Int32)
    · rw [if_pos c23]
      exact b_1117 P n6 e1 p0 p1 go
    rw [if_neg c23]
    clear c23
    by_cases c24 : (pxJ w &&& (63 : Int32)) = (24 : Int32)
    · rw [if_pos c24]
      exact b_1173 P n6 e1 p0 p1 e2 q0 q1 go
    rw [if_neg c24]
    clear c24
    by_cases c25 : (pxJ w &&& (63 : Int32)) = (25 : Int32)
    · rw [if_pos c25]
      exact b_1241 P n6 go
    rw [if_neg c25]
    clear c25
    by_cases c26 : (pxJ w &&& (63 : Int32)) = (26 : Int32)
    · rw [if_pos c26]
      exact b_1254 P n6 e1 p0 p1 go
    rw [if_neg c26]
    clear c26
    by_cases c27 : (pxJ w &&& (63 : Int32)) = (27 : Int32)
    · rw [if_pos c27]
      exact b_1310 P n6 e1 p0 p1 e2 q0 q1 go
    rw [if_neg c27]
    clear c27
    by_cases c28 : (pxJ w &&& (63 : Int32)) = (28 : Int32)
    · rw [if_pos c28]
      exact b_1378 P n6 go
    rw [if_neg c28]
    clear c28
    by_cases c29 : (pxJ w &&& (63 : Int32)) = (29 : Int32)
    · rw [if_pos c29]
      exact b_1391 P n6 e1 p0 p1 go
    rw [if_neg c29]
    clear c29
    by_cases c30 : (pxJ w &&& (63 : Int32)) = (30 : Int32)
    · rw [if_pos c30]
      exact b_1447 P n6 e1 p0 p1 e2 q0 q1 go
    rw [if_neg c30]
    clear c30
    by_cases c31 : (pxJ w &&& (63 : Int32)) = (31 : Int32)
    · rw [if_pos c31]
      exact b_1515 P n6 e1 p0 p1 e2 q0 q1 e3 r0 r1 go
    rw [if_neg c31]
    clear c31
    by_cases c32 : (pxJ w &&& (63 : Int32)) = (32 : Int32)
    · rw [if_pos c32]
      exact b_1595 P n6 e1 p0 p1 go
    rw [if_neg c32]
    clear c32
    by_cases c33 : (pxJ w &&& (63 : Int32)) = (33 : Int32)
    · rw [if_pos c33]
      exact b_1667 P n6 e1 p0 p1 go
    rw [if_neg c33]
    clear c33
    by_cases c34 : (pxJ w &&& (63 : Int32)) = (34 : Int32)
    · rw [if_pos c34]
      exact b_1723 P n6 e1 p0 p1 go
    rw [if_neg c34]
    clear c34
    by_cases c35 : (pxJ w &&& (63 : Int32)) = (35 : Int32)
    · rw [if_pos c35]
      exact b_1779 P n6 e1 p0 p1 go
    rw [if_neg c35]
    clear c35
    by_cases c36 : (pxJ w &&& (63 : Int32)) = (36 : Int32)
    · rw [if_pos c36]
      exact b_1835 P n6 e1 p0 p1 e2 q0 q1 go
    rw [if_neg c36]
    clear c36
    by_cases c37 : (pxJ w &&& (63 : Int32)) = (37 : Int32)
    · rw [if_pos c37]
      exact b_1903 P n6 go
    rw [if_neg c37]
    clear c37
    exact b_1916 (R := (0, 0, α)) (P.same n6) go
end
/-! what the two constructors make -/
/-- the empty world -/
def jw_h0 : jw_H := (0, 0, 0, (fun _ => (0, 0)), (fun _ _ => 0), (fun _ _ => 0), (fun _ _ => none))
noncomputable def jw_C0 : Option ((Nat × Nat) × jw_H) :=
  (some (jw_new jw_h0 (11, 0) (jw_nf 11))).bind fun h1 => jw_b2 (f_X11_init h1 (jw_n jw_h0)) fun _ h2 => (some (jw_new h2 (12, 0) (jw_nf 12))).bind fun h4 => jw_b2 (f_X12_init h4 (jw_n h2)) fun _ h5 => (jw_mka h5 23 (1 : Int32)).bind fun h7 => some ((jw_n h2, jw_n h5), h7)
noncomputable def jw_W : jw_H := (jw_C0.getD ((0, 0), jw_h0)).2
noncomputable def jw_Wn : Nat × Nat := (jw_C0.getD ((0, 0), jw_h0)).1
def jw_iT : List (Nat × Nat) := [(11, 0), (21, 60), (24, 4), (21, 60), (21, 60), (21, 60), (21, 60), (20, 4), (20, 1681), (20, 40), (6, 0), (35, 60), (5, 0), (0, 0), (0, 0), (0, 0), (5, 0), (0, 0), (0, 0), (0, 0), (5, 0), (0, 0), (0, 0), (0, 0), (5, 0), (0, 0), (0, 0), (0, 0), (5, 0), (0, 0), (0, 0), (0, 0), (5, 0), (0, 0), (0, 0), (0, 0), (5, 0), (0, 0), (0, 0), (0, 0), (5, 0), (0, 0), (0, 0), (0, 0), (5, 0), (0, 0), (0, 0), (0, 0), (5, 0), (0, 0), (0, 0), (0, 0), (5, 0), (0, 0), (0, 0), (0, 0), (5, 0), (0, 0), (0, 0), (0, 0), (5, 0), (0, 0), (0, 0), (0, 0), (5, 0), (0, 0), (0, 0), (0, 0), (5, 0), (0, 0), (0, 0), (0, 0), (5, 0), (0, 0), (0, 0), (0, 0), (5, 0), (0, 0), (0, 0), (0, 0), (5, 0), (0, 0), (0, 0), (0, 0), (5, 0), (0, 0), (0, 0), (0, 0), (5, 0), (0, 0), (0, 0), (0, 0), (5, 0), (0, 0), (0, 0), (0, 0), (5, 0), (0, 0), (0, 0), (0, 0), (5, 0), (0, 0), (0, 0), (0, 0), (5, 0), (0, 0), (0, 0), (0, 0), (5, 0), (0, 0), (0, 0), (0, 0), (5, 0), (0, 0), (0, 0), (0, 0), (5, 0), (0, 0), (0, 0), (0, 0), (5, 0), (0, 0), (0, 0), (0, 0), (5, 0), (0, 0), (0, 0), (0, 0), (5, 0), (0, 0), (0, 0), (0, 0), (5, 0), (0, 0), (0, 0), (0, 0), (5, 0), (0, 0), (0, 0), (0, 0), (5, 0), (0, 0), (0, 0), (0, 0), (5, 0), (0, 0), (0, 0), (0, 0), (5, 0), (0, 0), (0, 0), (0, 0), (5, 0), (0, 0), (0, 0), (0, 0), (5, 0), (0, 0), (0, 0), (0, 0), (5, 0), (0, 0), (0, 0), (0, 0), (5, 0), (0, 0), (0, 0), (0, 0), (5, 0), (0, 0), (0, 0), (0, 0), (5, 0), (0, 0), (0, 0), (0, 0), (5, 0), (0, 0), (0, 0), (0, 0), (5, 0), (0, 0), (0, 0), (0, 0), (5, 0), (0, 0), (0, 0), (0, 0), (5, 0), (0, 0), (0, 0), (0, 0), (5, 0), (0, 0), (0, 0), (0, 0), (5, 0), (0, 0), (0, 0), (0, 0), (5, 0), (0, 0), (0, 0), (0, 0), (5, 0), (0, 0), (0, 0), (0, 0), (5, 0), (0, 0), (0, 0), (0, 0), (5, 0), (0, 0), (0, 0), (0, 0), (5, 0), (0, 0), (0, 0), (0, 0), (5, 0), (0, 0), (0, 0), (0, 0), (5, 0), (0, 0), (0, 0), (0, 0), (5, 0), (0, 0), (0, 0), (0, 0), (5, 0), (0, 0), (0, 0), (0, 0), (5, 0), (0, 0), (0, 0), (0, 0), (5, 0), (0, 0), (0, 0), (0, 0), (5, 0), (0, 0), (0, 0), (0, 0), (5, 0), (0, 0), (0, 0), (0, 0), (20, 120), (23, 120), (21, 0), (9, 0), (7, 0), (20, 40), (21, 1200), (20, 40), (20, 5), (8, 0), (7, 0), (20, 40), (21, 1200), (7, 0), (20, 100), (21, 3000), (37, 4), (7, 0), (20, 40), (21, 1200), (7, 0), (20, 40), (21, 1200), (7, 0), (20, 40), (21, 1200), (7, 0), (20, 40), (21, 1200), (21, 30), (3, 0), (39, 41), (20, 41), (9, 0), (7, 0), (20, 40), (21, 1200), (20, 40), (20, 5), (9, 0), (7, 0), (20, 40), (21, 1200), (20, 40), (20, 5), (9, 0), (7, 0), (20, 40), (21, 1200), (20, 40), (20, 5), (9, 0), (7, 0), (20, 40), (21, 1200), (20, 40), (20, 5), (9, 0), (7, 0), (20, 40), (21, 1200), (20, 40), (20, 5), (9, 0), (7, 0), (20, 40), (21, 1200), (20, 40), (20, 5), (9, 0), (7, 0), (20, 40), (21, 1200), (20, 40), (20, 5), (9, 0), (7, 0), (20, 40), (21, 1200), (20, 40), (20, 5), (9, 0), (7, 0), (20, 40), (21, 1200), (20, 40), (20, 5), (9, 0), (7, 0), (20, 40), (21, 1200), (20, 40), (20, 5), (9, 0), (7, 0), (20, 40), (21, 1200), (20, 40), (20, 5), (9, 0), (7, 0), (20, 40), (21, 1200), (20, 40), (20, 5), (9, 0), (7, 0), (20, 40), (21, 1200), (20, 40), (20, 5), (9, 0), (7, 0), (20, 40), (21, 1200), (20, 40), (20, 5), (9, 0), (7, 0), (20, 40), (21, 1200), (20, 40), (20, 5), (9, 0), (7, 0), (20, 40), (21, 1200), (20, 40), (20, 5), (9, 0), (7, 0), (20, 40), (21, 1200), (20, 40), (20, 5), (9, 0), (7, 0), (20, 40), (21, 1200), (20, 40), (20, 5), (9, 0), (7, 0), (20, 40), (21, 1200), (20, 40), (20, 5), (9, 0), (7, 0), (20, 40), (21, 1200), (20, 40), (20, 5), (9, 0), (7, 0), (20, 40), (21, 1200), (20, 40), (20, 5), (9, 0), (7, 0), (20, 40), (21, 1200), (20, 40), (20, 5), (9, 0), (7, 0), (20, 40), (21, 1200), (20, 40), (20, 5), (9, 0), (7, 0), (20, 40), (21, 1200), (20, 40), (20, 5), (9, 0), (7, 0), (20, 40), (21, 1200), (20, 40), (20, 5), (9, 0), (7, 0), (20, 40), (21, 1200), (20, 40), (20, 5), (9, 0), (7, 0), (20, 40), (21, 1200), (20, 40), (20, 5), (9, 0), (7, 0), (20, 40), (21, 1200), (20, 40), (20, 5), (9, 0), (7, 0), (20, 40), (21, 1200), (20, 40), (20, 5), (9, 0), (7, 0), (20, 40), (21, 1200), (20, 40), (20, 5), (9, 0), (7, 0), (20, 40), (21, 1200), (20, 40), (20, 5), (9, 0), (7, 0), (20, 40), (21, 1200), (20, 40), (20, 5), (9, 0), (7, 0), (20, 40), (21, 1200), (20, 40), (20, 5), (9, 0), (7, 0), (20, 40), (21, 1200), (20, 40), (20, 5), (9, 0), (7, 0), (20, 40), (21, 1200), (20, 40), (20, 5), (9, 0), (7, 0), (20, 40), (21, 1200), (20, 40), (20, 5), (9, 0), (7, 0), (20, 40), (21, 1200), (20, 40), (20, 5), (9, 0), (7, 0), (20, 40), (21, 1200), (20, 40), (20, 5), (9, 0), (7, 0), (20, 40), (21, 1200), (20, 40), (20, 5), (9, 0), (7, 0), (20, 40), (21, 1200), (20, 40), (20, 5), (9, 0), (7, 0), (20, 40), (21, 1200), (20, 40), (20, 5), (4, 0), (21, 30), (23, 30), (20, 3), (20, 3), (2, 0), (21, 30), (8, 0), (7, 0), (20, 40), (21, 1200), (7, 0), (20, 100), (21, 3000), (37, 4), (7, 0), (20, 40), (21, 1200), (7, 0), (20, 40), (21, 1200), (7, 0), (20, 40), (21, 1200), (7, 0), (20, 40), (21, 1200), (21, 30), (10, 0), (7, 0), (20, 60), (21, 1800), (9, 0), (7, 0), (20, 40), (21, 1200), (20, 40), (20, 5), (20, 40), (20, 40), (1, 0), (9, 0), (7, 0), (20, 40), (21, 1200), (20, 40), (20, 5), (7, 0), (20, 1), (21, 30), (7, 0), (20, 41), (21, 1230), (7, 0), (20, 60), (21, 1800), (12, 0), (20, 60), (20, 240), (20, 4), (22, 4), (20, 26908), (20, 41), (20, 41), (20, 41), (20, 5), (20, 4), (20, 31), (20, 60), (20, 64), (20, 64), (20, 3), (20, 3), (20, 40), (20, 41), (20, 5), (20, 4), (20, 49600), (20, 1600), (20, 200), (20, 40), (20, 40), (20, 40), (22, 60), (20, 60), (22, 60), (20, 1681), (20, 40), (23, 1)]
def jw_iR : List (Nat × Nat × Nat) := [(0, 0, 1), (0, 1, 2), (0, 2, 7), (0, 3, 8), (0, 4, 9), (0, 5, 10), (0, 6, 255), (0, 7, 261), (0, 8, 531), (0, 9, 559), (0, 10, 571), (0, 11, 282), (2, 0, 3), (2, 1, 4), (2, 2, 5), (2, 3, 6), (10, 0, 11), (10, 1, 252), (10, 2, 253), (10, 3, 254), (11, 0, 12), (11, 1, 16), (11, 2, 20), (11, 3, 24), (11, 4, 28), (11, 5, 32), (11, 6, 36), (11, 7, 40), (11, 8, 44), (11, 9, 48), (11, 10, 52), (11, 11, 56), (11, 12, 60), (11, 13, 64), (11, 14, 68), (11, 15, 72), (11, 16, 76), (11, 17, 80), (11, 18, 84), (11, 19, 88), (11, 20, 92), (11, 21, 96), (11, 22, 100), (11, 23, 104), (11, 24, 108), (11, 25, 112), (11, 26, 116), (11, 27, 120), (11, 28, 124), (11, 29, 128), (11, 30, 132), (11, 31, 136), (11, 32, 140), (11, 33, 144), (11, 34, 148), (11, 35, 152), (11, 36, 156), (11, 37, 160), (11, 38, 164), (11, 39, 168), (11, 40, 172), (11, 41, 176), (11, 42, 180), (11, 43, 184), (11, 44, 188), (11, 45, 192), (11, 46, 196), (11, 47, 200), (11, 48, 204), (11, 49, 208), (11, 50, 212), (11, 51, 216), (11, 52, 220), (11, 53, 224), (11, 54, 228), (11, 55, 232), (11, 56, 236), (11, 57, 240), (11, 58, 244), (11, 59, 248), (12, 0, 13), (12, 1, 14), (12, 2, 15), (16, 0, 17), (16, 1, 18), (16, 2, 19), (20, 0, 21), (20, 1, 22), (20, 2, 23), (24, 0, 25), (24, 1, 26), (24, 2, 27), (28, 0, 29), (28, 1, 30), (28, 2, 31), (32, 0, 33), (32, 1, 34), (32, 2, 35), (36, 0, 37), (36, 1, 38), (36, 2, 39), (40, 0, 41), (40, 1, 42), (40, 2, 43), (44, 0, 45), (44, 1, 46), (44, 2, 47), (48, 0, 49), (48, 1, 50), (48, 2, 51), (52, 0, 53), (52, 1, 54), (52, 2, 55), (56, 0, 57), (56, 1, 58), (56, 2, 59), (60, 0, 61), (60, 1, 62), (60, 2, 63), (64, 0, 65), (64, 1, 66), (64, 2, 67), (68, 0, 69), (68, 1, 70), (68, 2, 71), (72, 0, 73), (72, 1, 74), (72, 2, 75), (76, 0, 77), (76, 1, 78), (76, 2, 79), (80, 0, 81), (80, 1, 82), (80, 2, 83), (84, 0, 85), (84, 1, 86), (84, 2, 87), (88, 0, 89), (88, 1, 90), (88, 2, 91), (92, 0, 93), (92, 1, 94), (92, 2, 95), (96, 0, 97), (96, 1, 98), (96, 2, 99), (100, 0, 101), (100, 1, 102), (100, 2, 103), (104, 0, 105), (104, 1, 106), (104, 2, 107), (108, 0, 109), (108, 1, 110), (108, 2, 111), (112, 0, 113), (112, 1, 114), (112, 2, 115), (116, 0, 117), (116, 1, 118), (116, 2, 119), (120, 0, 121), (120, 1, 122), (120, 2, 123), (124, 0, 125), (124, 1, 126), (124, 2, 127), (128, 0, 129), (128, 1, 130), (128, 2, 131), (132, 0, 133), (132, 1, 134), (132, 2, 135), (136, 0, 137), (136, 1, 138), (136, 2, 139), (140, 0, 141), (140, 1, 142), (140, 2, 143), (144, 0, 145), (144, 1, 146), (144, 2, 147), (148, 0, 149), (148, 1, 150), (148, 2, 151), (152, 0, 153), (152, 1, 154), (152, 2, 155), (156, 0, 157), (156, 1, 158), (156, 2, 159), (160, 0, 161), (160, 1, 162), (160, 2, 163), (164, 0, 165), (164, 1, 166), (164, 2, 167), (168, 0, 169), (168, 1, 170), (168, 2, 171), (172, 0, 173), (172, 1, 174), (172, 2, 175), (176, 0, 177), (176, 1, 178), (176, 2, 179), (180, 0, 181), (180, 1, 182), (180, 2, 183), (184, 0, 185), (184, 1, 186), (184, 2, 187), (188, 0, 189), (188, 1, 190), (188, 2, 191), (192, 0, 193), (192, 1, 194), (192, 2, 195), (196, 0, 197), (196, 1, 198), (196, 2, 199), (200, 0, 201), (200, 1, 202), (200, 2, 203), (204, 0, 205), (204, 1, 206), (204, 2, 207), (208, 0, 209), (208, 1, 210), (208, 2, 211), (212, 0, 213), (212, 1, 214), (212, 2, 215), (216, 0, 217), (216, 1, 218), (216, 2, 219), (220, 0, 221), (220, 1, 222), (220, 2, 223), (224, 0, 225), (224, 1, 226), (224, 2, 227), (228, 0, 229), (228, 1, 230), (228, 2, 231), (232, 0, 233), (232, 1, 234), (232, 2, 235), (236, 0, 237), (236, 1, 238), (236, 2, 239), (240, 0, 241), (240, 1, 242), (240, 2, 243), (244, 0, 245), (244, 1, 246), (244, 2, 247), (248, 0, 249), (248, 1, 250), (248, 2, 251), (255, 0, 256), (255, 1, 259), (255, 2, 260), (256, 0, 257), (256, 1, 258), (261, 0, 262), (261, 1, 265), (261, 2, 268), (261, 3, 281), (262, 0, 263), (262, 1, 264), (265, 0, 266), (265, 1, 267), (268, 0, 269), (268, 1, 272), (268, 2, 275), (268, 3, 278), (269, 0, 270), (269, 1, 271), (272, 0, 273), (272, 1, 274), (275, 0, 276), (275, 1, 277), (278, 0, 279), (278, 1, 280), (282, 0, 283), (282, 1, 284), (283, 0, 285), (283, 1, 291), (283, 2, 297), (283, 3, 303), (283, 4, 309), (283, 5, 315), (283, 6, 321), (283, 7, 327), (283, 8, 333), (283, 9, 339), (283, 10, 345), (283, 11, 351), (283, 12, 357), (283, 13, 363), (283, 14, 369), (283, 15, 375), (283, 16, 381), (283, 17, 387), (283, 18, 393), (283, 19, 399), (283, 20, 405), (283, 21, 411), (283, 22, 417), (283, 23, 423), (283, 24, 429), (283, 25, 435), (283, 26, 441), (283, 27, 447), (283, 28, 453), (283, 29, 459), (283, 30, 465), (283, 31, 471), (283, 32, 477), (283, 33, 483), (283, 34, 489), (283, 35, 495), (283, 36, 501), (283, 37, 507), (283, 38, 513), (283, 39, 519), (283, 40, 525), (285, 0, 286), (285, 1, 289), (285, 2, 290), (286, 0, 287), (286, 1, 288), (291, 0, 292), (291, 1, 295), (291, 2, 296), (292, 0, 293), (292, 1, 294), (297, 0, 298), (297, 1, 301), (297, 2, 302), (298, 0, 299), (298, 1, 300), (303, 0, 304), (303, 1, 307), (303, 2, 308), (304, 0, 305), (304, 1, 306), (309, 0, 310), (309, 1, 313), (309, 2, 314), (310, 0, 311), (310, 1, 312), (315, 0, 316), (315, 1, 319), (315, 2, 320), (316, 0, 317), (316, 1, 318), (321, 0, 322), (321, 1, 325), (321, 2, 326), (322, 0, 323), (322, 1, 324), (327, 0, 328), (327, 1, 331), (327, 2, 332), (328, 0, 329), (328, 1, 330), (333, 0, 334), (333, 1, 337), (333, 2, 338), (334, 0, 335), (334, 1, 336), (339, 0, 340), (339, 1, 343), (339, 2, 344), (340, 0, 341), (340, 1, 342), (345, 0, 346), (345, 1, 349), (345, 2, 350), (346, 0, 347), (346, 1, 348), (351, 0, 352), (351, 1, 355), (351, 2, 356), (352, 0, 353), (352, 1, 354), (357, 0, 358), (357, 1, 361), (357, 2, 362), (358, 0, 359), (358, 1, 360), (363, 0, 364), (363, 1, 367), (363, 2, 368), (364, 0, 365), (364, 1, 366), (369, 0, 370), (369, 1, 373), (369, 2, 374), (370, 0, 371), (370, 1, 372), (375, 0, 376), (375, 1, 379), (375, 2, 380), (376, 0, 377), (376, 1, 378), (381, 0, 382), (381, 1, 385), (381, 2, 386), (382, 0, 383), (382, 1, 384), (387, 0, 388), (387, 1, 391), (387, 2, 392), (388, 0, 389), (388, 1, 390), (393, 0, 394), (393, 1, 397), (393, 2, 398), (394, 0, 395), (394, 1, 396), (399, 0, 400), (399, 1, 403), (399, 2, 404), (400, 0, 401), (400, 1, 402), (405, 0, 406), (405, 1, 409), (405, 2, 410), (406, 0, 407), (406, 1, 408), (411, 0, 412), (411, 1, 415), (411, 2, 416), (412, 0, 413), (412, 1, 414), (417, 0, 418), (417, 1, 421), (417, 2, 422), (418, 0, 419), (418, 1, 420), (423, 0, 424), (423, 1, 427), (423, 2, 428), (424, 0, 425), (424, 1, 426), (429, 0, 430), (429, 1, 433), (429, 2, 434), (430, 0, 431), (430, 1, 432), (435, 0, 436), (435, 1, 439), (435, 2, 440), (436, 0, 437), (436, 1, 438), (441, 0, 442), (441, 1, 445), (441, 2, 446), (442, 0, 443), (442, 1, 444), (447, 0, 448), (447, 1, 451), (447, 2, 452), (448, 0, 449), (448, 1, 450), (453, 0, 454), (453, 1, 457), (453, 2, 458), (454, 0, 455), (454, 1, 456), (459, 0, 460), (459, 1, 463), (459, 2, 464), (460, 0, 461), (460, 1, 462), (465, 0, 466), (465, 1, 469), (465, 2, 470), (466, 0, 467), (466, 1, 468), (471, 0, 472), (471, 1, 475), (471, 2, 476), (472, 0, 473), (472, 1, 474), (477, 0, 478), (477, 1, 481), (477, 2, 482), (478, 0, 479), (478, 1, 480), (483, 0, 484), (483, 1, 487), (483, 2, 488), (484, 0, 485), (484, 1, 486), (489, 0, 490), (489, 1, 493), (489, 2, 494), (490, 0, 491), (490, 1, 492), (495, 0, 496), (495, 1, 499), (495, 2, 500), (496, 0, 497), (496, 1, 498), (501, 0, 502), (501, 1, 505), (501, 2, 506), (502, 0, 503), (502, 1, 504), (507, 0, 508), (507, 1, 511), (507, 2, 512), (508, 0, 509), (508, 1, 510), (513, 0, 514), (513, 1, 517), (513, 2, 518), (514, 0, 515), (514, 1, 516), (519, 0, 520), (519, 1, 523), (519, 2, 524), (520, 0, 521), (520, 1, 522), (525, 0, 526), (525, 1, 529), (525, 2, 530), (526, 0, 527), (526, 1, 528), (531, 0, 10), (531, 1, 532), (531, 2, 533), (531, 3, 534), (531, 4, 535), (536, 0, 10), (536, 1, 531), (536, 2, 537), (538, 0, 539), (538, 1, 542), (538, 2, 545), (538, 3, 558), (539, 0, 540), (539, 1, 541), (542, 0, 543), (542, 1, 544), (545, 0, 546), (545, 1, 549), (545, 2, 552), (545, 3, 555), (546, 0, 547), (546, 1, 548), (549, 0, 550), (549, 1, 551), (552, 0, 553), (552, 1, 554), (555, 0, 556), (555, 1, 557), (559, 0, 10), (559, 1, 255), (559, 2, 261), (559, 3, 538), (559, 4, 531), (559, 5, 536), (559, 6, 282), (559, 7, 560), (559, 8, 563), (559, 9, 569), (559, 10, 570), (560, 0, 561), (560, 1, 562), (563, 0, 564), (563, 1, 567), (563, 2, 568), (564, 0, 565), (564, 1, 566), (571, 0, 10), (571, 1, 255), (571, 2, 261), (571, 3, 538), (571, 4, 531), (571, 5, 536), (571, 6, 572), (571, 7, 578), (571, 8, 581), (571, 9, 584), (572, 0, 573), (572, 1, 576), (572, 2, 577), (573, 0, 574), (573, 1, 575), (578, 0, 579), (578, 1, 580), (581, 0, 582), (581, 1, 583), (584, 0, 585), (584, 1, 586), (587, 1, 588), (587, 3, 589), (587, 4, 590), (587, 5, 591), (587, 6, 592), (587, 7, 593), (587, 8, 594), (587, 9, 595), (587, 10, 596), (587, 11, 597), (587, 19, 598), (587, 21, 599), (587, 31, 600), (587, 32, 601), (587, 38, 602), (587, 39, 603), (587, 46, 604), (587, 47, 605), (587, 48, 606), (587, 49, 607), (587, 55, 608), (587, 56, 609), (587, 57, 610), (587, 58, 611), (587, 59, 612), (587, 60, 613), (587, 74, 614), (587, 75, 615), (587, 76, 616), (587, 78, 617), (587, 79, 618)]
def jw_iM : List (Nat × Nat × Int) := [(0, 12, 0), (0, 13, 0), (0, 14, 0), (7, 0, (-1)), (7, 1, (-1)), (7, 2, (-1)), (7, 3, (-1)), (256, 2, 0), (262, 2, 0), (265, 2, 0), (560, 2, 0), (578, 2, 0), (581, 2, 0), (584, 2, 0), (269, 2, 0), (272, 2, 0), (275, 2, 0), (278, 2, 0), (260, 0, (-1)), (260, 1, (-1)), (260, 2, (-1)), (260, 3, (-1)), (260, 4, (-1)), (255, 3, 0), (255, 4, 0), (282, 2, 0), (282, 3, 0), (536, 5, 0), (587, 0, 0), (587, 2, 0), (587, 12, 0), (587, 14, 0), (587, 15, 0), (587, 16, 0), (587, 17, 0), (587, 18, 0), (587, 61, 0), (587, 62, 0), (587, 63, 0), (591, 0, 0), (597, 0, 0), (591, 1, 0), (597, 1, 0), (591, 2, 0), (597, 2, 0), (591, 3, 0), (597, 3, 0), (596, 0, (-1)), (596, 1, (-1)), (596, 2, (-1)), (596, 3, (-1)), (596, 4, (-1))]
theorem ini_s : jw_C0.isSome = true := by decide +kernel
theorem ini_n : jw_n jw_W = 620 ∧ jw_c jw_W = 620 ∧ jw_s jw_W = 166031 ∧ jw_Wn = (587, 619) := by decide +kernel
theorem ini_t : ∀ k, k < 620 → jw_t jw_W k = jw_iT.getD k (0, 0) := by decide +kernel
theorem ini_r : ∀ q ∈ jw_iR, jw_r jw_W q.1 q.2.1 = some q.2.2 := by decide +kernel
theorem ini_i : ∀ q ∈ jw_iM, jw_i jw_W q.1 q.2.1 = Int32.ofInt q.2.2 := by decide +kernel
