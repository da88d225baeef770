theorem jw_sub {ws : List Cond} (ps : List Nat) (hp : ws = ps.filterMap (fun i => lw_tbl[i]?)) (hg : ws.all goodWord = true) : ∀ w ∈ ws, w ∈ jw_T := by
  intro w hw
  refine jw_Tin ?_ (List.all_eq_true.mp hg w hw)
  rw [hp] at hw
  obtain ⟨i, -, hi⟩ := List.mem_filterMap.mp hw
  exact List.mem_of_getElem? hi
theorem jw_w {w : Cond} (i : Nat) (h : lw_tbl[i]? = some w) (g : goodWord w = true) : w ∈ jw_T := jw_Tin (List.mem_of_getElem? h) g
theorem jw_wn {w : Cond} (i : Nat) (h : tables_1[i]? = some w) (g : jw_nest w = true) : w ∈ jw_Nb := List.mem_filter.mpr ⟨List.mem_of_getElem? h, g⟩
theorem jw_tyok (c : Nat) (hc : c < 12) : ∀ k, k < jw_nf c → parseFieldDescriptor (jw_TX c k).2.2.1 = some (jw_fty c k) := by
  match c, hc with
  | 0, _ => exact tyX0_ok
  | 1, _ => exact tyX1_ok
  | 2, _ => exact tyX2_ok
  | 3, _ => exact tyX3_ok
  | 4, _ => exact tyX4_ok
  | 5, _ => exact tyX5_ok
  | 6, _ => exact tyX6_ok
  | 7, _ => exact tyX7_ok
  | 8, _ => exact tyX8_ok
  | 9, _ => exact tyX9_ok
  | 10, _ => exact tyX10_ok
  | 11, _ => exact tyX11_ok
theorem jw_nmok (c : Nat) (hc : c < 12) : ∀ a, a < jw_nf c → ∀ b, b < jw_nf c → a ≠ b → (jw_TX c a).2.1 ≠ (jw_TX c b).2.1 := by
  match c, hc with
  | 0, _ => exact nmX0
  | 1, _ => exact nmX1
  | 2, _ => exact nmX2
  | 3, _ => exact nmX3
  | 4, _ => exact nmX4
  | 5, _ => exact nmX5
  | 6, _ => exact nmX6
  | 7, _ => exact nmX7
  | 8, _ => exact nmX8
  | 9, _ => exact nmX9
  | 10, _ => exact nmX10
  | 11, _ => exact nmX11
theorem jw_nf_ref {ty : FieldType} {o : Option Nat} (h : jw_isR ty = true) : narrow ty (va_rf o) = va_rf o ∧ fits ty (va_rf o) = true := by
  cases ty <;> first | (cases o <;> exact ⟨rfl, rfl⟩) | (simp [jw_isR] at h)
theorem jw_fitb (w : Int32) : fits .byte (.int (vp_nar .byte w)) = true := by rw [vp_nar_byte]; exact pk_fb w
theorem jw_aty_o {t : Nat} (h : 24 < t) : jw_aty t = .object (jw_cn (t - 30)) := by
  unfold jw_aty
  split <;> first | omega | rfl
/-! heap operations: each a function that may fail (null, another class, an index outside) -/
theorem jw_in (c : Nat) (hc : c < 12) : ∀ w ∈ u_ws (jw_cn c) (jw_TX c) (jw_nf c), w ∈ jw_T := by
  match c, hc with
  | 0, _ => exact jw_sub [198, 200, 202, 204] (by decide +kernel) (by decide +kernel)
  | 1, _ => exact jw_sub [590, 592, 594, 596, 598, 600, 602, 604, 606, 608, 610, 612, 614, 616, 618, 620, 622, 624, 626, 628] (by decide +kernel) (by decide +kernel)
  | 2, _ => exact jw_sub [483, 485, 487, 489, 491, 493] (by decide +kernel) (by decide +kernel)
  | 3, _ => exact jw_sub [419, 421, 423, 425, 427] (by decide +kernel) (by decide +kernel)
  | 4, _ => exact jw_sub [452, 454, 456, 458, 460, 462, 464, 466] (by decide +kernel) (by decide +kernel)
  | 5, _ => exact jw_sub [257, 259, 261, 263, 265, 267, 269, 271, 273, 275, 277, 279, 281, 283] (by decide +kernel) (by decide +kernel)
  | 6, _ => exact jw_sub [301, 303, 305, 307, 309, 311, 313, 315, 317, 319] (by decide +kernel) (by decide +kernel)
  | 7, _ => exact jw_sub [347, 349, 351] (by decide +kernel) (by decide +kernel)
  | 8, _ => exact jw_sub [395, 397, 399, 401] (by decide +kernel) (by decide +kernel)
  | 9, _ => exact jw_sub [369, 371, 373, 375, 377] (by decide +kernel) (by decide +kernel)
  | 10, _ => exact jw_sub [524, 526, 528, 530, 532, 534, 536, 538, 540, 542, 544, 546, 548, 550, 552, 554, 556] (by decide +kernel) (by decide +kernel)
  | 11, _ => exact jw_sub [646, 648, 650, 652, 654, 656, 658, 660, 662, 664, 666, 668, 670, 672, 674] (by decide +kernel) (by decide +kernel)
def jw_u {α : Type} (g : Nat → Nat → α) (k f : Nat) (v : α) : Nat → Nat → α := fun a b => if a = k then (if b = f then v else g a b) else g a b
theorem jw_u_ne {α : Type} {g : Nat → Nat → α} {k f a : Nat} {v : α} (h : a ≠ k) : jw_u g k f v a = g a := by funext b; simp [jw_u, h]
theorem jw_u_eq {α : Type} {g : Nat → Nat → α} {k f : Nat} {v : α} : jw_u g k f v k = fun b => if b = f then v else g k b := by funext b; simp [jw_u]
def jw_setI (h : jw_H) (k f : Nat) (v : Int32) : jw_H := (jw_n h, jw_c h, jw_s h, jw_t h, jw_u (jw_i h) k f v, jw_l h, jw_r h)
def jw_setL (h : jw_H) (k f : Nat) (v : Int64) : jw_H := (jw_n h, jw_c h, jw_s h, jw_t h, jw_i h, jw_u (jw_l h) k f v, jw_r h)
def jw_setR (h : jw_H) (k f : Nat) (v : Option Nat) : jw_H := (jw_n h, jw_c h, jw_s h, jw_t h, jw_i h, jw_l h, jw_u (jw_r h) k f v)
theorem jw_i_I {h : jw_H} {k f : Nat} {v : Int32} : jw_i (jw_setI h k f v) = jw_u (jw_i h) k f v := rfl
theorem jw_l_I {h : jw_H} {k f : Nat} {v : Int32} : jw_l (jw_setI h k f v) = jw_l h := rfl
theorem jw_r_I {h : jw_H} {k f : Nat} {v : Int32} : jw_r (jw_setI h k f v) = jw_r h := rfl
theorem jw_t_I {h : jw_H} {k f : Nat} {v : Int32} : jw_t (jw_setI h k f v) = jw_t h := rfl
theorem jw_i_L {h : jw_H} {k f : Nat} {v : Int64} : jw_i (jw_setL h k f v) = jw_i h := rfl
theorem jw_l_L {h : jw_H} {k f : Nat} {v : Int64} : jw_l (jw_setL h k f v) = jw_u (jw_l h) k f v := rfl
theorem jw_r_L {h : jw_H} {k f : Nat} {v : Int64} : jw_r (jw_setL h k f v) = jw_r h := rfl
theorem jw_t_L {h : jw_H} {k f : Nat} {v : Int64} : jw_t (jw_setL h k f v) = jw_t h := rfl
theorem jw_i_R {h : jw_H} {k f : Nat} {v : Option Nat} : jw_i (jw_setR h k f v) = jw_i h := rfl
theorem jw_l_R {h : jw_H} {k f : Nat} {v : Option Nat} : jw_l (jw_setR h k f v) = jw_l h := rfl
theorem jw_r_R {h : jw_H} {k f : Nat} {v : Option Nat} : jw_r (jw_setR h k f v) = jw_u (jw_r h) k f v := rfl
theorem jw_t_R {h : jw_H} {k f : Nat} {v : Option Nat} : jw_t (jw_setR h k f v) = jw_t h := rfl
def jw_gI (h : jw_H) (c : Nat) (o : Option Nat) (f : Nat) : Option Int32 := match o with
  | some k => if (jw_t h k).1 = c then some (jw_i h k f) else none
  | none => none
def jw_gR (h : jw_H) (c : Nat) (o : Option Nat) (f : Nat) : Option (Option Nat) := match o with
  | some k => if (jw_t h k).1 = c then some (jw_r h k f) else none
  | none => none
def jw_pI (h : jw_H) (c : Nat) (o : Option Nat) (f : Nat) (v : Int32) : Option jw_H := match o with
  | some k => if (jw_t h k).1 = c then some (jw_setI h k f v) else none
  | none => none
def jw_pB (h : jw_H) (c : Nat) (o : Option Nat) (f : Nat) (v : Int32) : Option jw_H := match o with
  | some k => if (jw_t h k).1 = c ∧ (v = 0 ∨ v = 1) then some (jw_setI h k f v) else none
  | none => none
def jw_pR (h : jw_H) (c : Nat) (o : Option Nat) (f : Nat) (v : Option Nat) : Option jw_H := match o with
  | some k => if (jw_t h k).1 = c then some (jw_setR h k f v) else none
  | none => none
def jw_rc (h : jw_H) (c : Nat) (o : Option Nat) : Option Nat := match o with
  | some k => if (jw_t h k).1 = c then some k else none
  | none => none
def jw_ix (h : jw_H) (t : Nat) (o : Option Nat) (x : Int32) : Option (Nat × Nat) := match o with
  | some k => if (jw_t h k).1 = t ∧ ¬ (x < 0 ∨ (jw_t h k).2 ≤ x.toNatClampNeg) then some (k, x.toNatClampNeg) else none
  | none => none
def jw_ai (h : jw_H) (t : Nat) (o : Option Nat) (x : Int32) : Option Int32 := (jw_ix h t o x).map fun q => jw_i h q.1 q.2
def jw_al (h : jw_H) (o : Option Nat) (x : Int32) : Option Int64 := (jw_ix h 23 o x).map fun q => jw_l h q.1 q.2
def jw_ar (h : jw_H) (t : Nat) (o : Option Nat) (x : Int32) : Option (Option Nat) := (jw_ix h t o x).map fun q => jw_r h q.1 q.2
def jw_si (h : jw_H) (t : Nat) (o : Option Nat) (x v : Int32) : Option jw_H := (jw_ix h t o x).map fun q => jw_setI h q.1 q.2 v
def jw_sl (h : jw_H) (o : Option Nat) (x : Int32) (v : Int64) : Option jw_H := (jw_ix h 23 o x).map fun q => jw_setL h q.1 q.2 v
def jw_sr (h : jw_H) (t : Nat) (o : Option Nat) (x : Int32) (v : Option Nat) : Option jw_H := match jw_ix h t o x, v with
  | some q, some j => if (jw_t h j).1 = t - 30 then some (jw_setR h q.1 q.2 (some j)) else none
  | _, _ => none
def jw_ln (h : jw_H) (o : Option Nat) : Option Int32 := match o with
  | some k => if 20 ≤ (jw_t h k).1 then some (Int32.ofNat (jw_t h k).2) else none
  | none => none
def jw_new (h : jw_H) (t : Nat × Nat) (sl : Nat) : jw_H := (jw_n h + 1, jw_c h + 1, jw_s h + sl, (fun k => if k = jw_n h then t else jw_t h k), (fun k => if k = jw_n h then fun _ => 0 else jw_i h k), (fun k => if k = jw_n h then fun _ => 0 else jw_l h k), (fun k => if k = jw_n h then fun _ => none else jw_r h k))
/-- a copy of places of one array into another (or the same) -/
def jw_cp (h : jw_H) (t : Nat) (o1 : Option Nat) (sp : Int32) (o2 : Option Nat) (dp n : Int32) : Option jw_H := match o1, o2 with
  | some a, some b => if (jw_t h a).1 = t ∧ (jw_t h b).1 = t ∧ ¬ sp < 0 ∧ ¬ dp < 0 ∧ ¬ n < 0 ∧ sp.toNatClampNeg + n.toNatClampNeg ≤ (jw_t h a).2 ∧ dp.toNatClampNeg + n.toNatClampNeg ≤ (jw_t h b).2
      then some (jw_n h, jw_c h, jw_s h, jw_t h, (fun k => if k = b then va_cpy (jw_i h a) (jw_i h b) sp.toNatClampNeg dp.toNatClampNeg n.toNatClampNeg else jw_i h k), jw_l h, jw_r h) else none
  | _, _ => none
/-- a field's place in the tables, as a class's pool links it -/
def jw_fl (own : String) (idx c f : Nat) : Prop := c < 12 ∧ f < jw_nf c ∧ (jw_TX c f).1 = jw_cn c ∧
  (Cond.fieldLink own idx (jw_cn c) (jw_TX c f).2.1 (jw_TX c f).2.2.1 ∈ jw_T ∨ ∃ host, Cond.fieldLinkNest own idx (jw_cn c) (jw_TX c f).2.1 (jw_TX c f).2.2.1 host ∈ jw_Nb)
theorem jw_cell_o {κ : Nat → ClassId} {σ : Nat → Nat} {h : jw_H} {k c : Nat} (ht : (jw_t h k).1 = c) (hc : c < 20) : jw_cell κ σ h k = .inr (c, (List.range (jw_nf c)).map (jw_fv σ h k c)) := by
  subst ht
  unfold jw_cell
  rw [if_pos hc]
theorem jw_cell_a {κ : Nat → ClassId} {σ : Nat → Nat} {h : jw_H} {k : Nat} (ht : 20 ≤ (jw_t h k).1) : jw_cell κ σ h k = .inl (κ k, (jw_t h k).2, jw_ac σ h k) := by
  unfold jw_cell
  rw [if_neg (Nat.not_lt.mpr ht)]
theorem jw_ac_i {σ : Nat → Nat} {h : jw_H} {k : Nat} (ht : (jw_t h k).1 < 23) : jw_ac σ h k = .inl (jw_i h k) := by
  unfold jw_ac
  rw [if_neg (by omega), if_neg (by omega)]
theorem jw_ac_l {σ : Nat → Nat} {h : jw_H} {k : Nat} (ht : (jw_t h k).1 = 23) : jw_ac σ h k = .inr (.inl (jw_l h k)) := by
  unfold jw_ac
  rw [if_pos ht]
theorem jw_ac_r {σ : Nat → Nat} {h : jw_H} {k : Nat} (ht : 24 ≤ (jw_t h k).1) : jw_ac σ h k = .inr (.inr (.inr (.inr (fun j => (jw_r h k j).map σ)))) := by
  unfold jw_ac
  rw [if_neg (by omega), if_pos ht]
theorem jw_cell_same {κ κ' : Nat → ClassId} {σ σ' : Nat → Nat} {h h' : jw_H} {k : Nat} (hκ : κ' k = κ k) (ht : jw_t h' k = jw_t h k) (hi : jw_i h' k = jw_i h k) (hl : jw_l h' k = jw_l h k) (hr : ∀ j, (jw_r h' k j).map σ' = (jw_r h k j).map σ) : jw_cell κ' σ' h' k = jw_cell κ σ h k := by
  have e1 : ∀ c, jw_fv σ' h' k c = jw_fv σ h k c := fun c => by funext f; unfold jw_fv; rw [hr f, hi]
  have e2 : jw_ac σ' h' k = jw_ac σ h k := by
    unfold jw_ac
    rw [ht, hi, hl]
    simp only [hr]
  unfold jw_cell
  rw [ht, hκ, e1, e2]
theorem jw_fs_set {n f : Nat} {g g' : Nat → Value} {v : Value} (hv : g' f = v) (ho : ∀ j, j ≠ f → g' j = g j) : ((List.range n).map g).set f v = (List.range n).map g' := by
  apply List.ext_getElem?
  intro j
  by_cases hj : j < n
  · by_cases hjf : j = f
    · subst hjf
      rw [List.getElem?_set_self (by simpa using hj)]
      simp [List.getElem?_range, hj, hv]
    · rw [List.getElem?_set_ne (Ne.symm hjf)]
      simp [List.getElem?_range, hj, ho j hjf]
  · rw [List.getElem?_eq_none (by simp; omega), List.getElem?_eq_none (by simp; omega)]
theorem jw_R.setc {D : va_G} {κ : Nat → ClassId} {tys : List (ClassId × FieldType)} {σ : Nat → Nat} {h h1 : jw_H} {A : Nat → Prop} {s : State} {Hm H1 : Heap} {a : Nat} {e : va_E} (M : jw_R D κ tys σ h A s Hm) (ha : a < jw_n h) (hn : jw_n h1 = jw_n h) (ht : jw_t h1 = jw_t h)
    (hP : va_P D vwCl ((jw_ws κ σ h).set a (σ a, e)) H1) (hD : va_D A ((jw_ws κ σ h).set a (σ a, e))) (he : jw_cell κ σ h1 a = e)
    (ho : ∀ j, j ≠ a → jw_i h1 j = jw_i h j ∧ jw_l h1 j = jw_l h j ∧ jw_r h1 j = jw_r h j)
    (hb : (jw_t h a).1 = 21 → ∀ j, fits .byte (.int (jw_i h1 a j)) = true) (hc : ∀ j i, jw_r h1 a j = some i → i < jw_n h) : jw_R D κ tys σ h1 A s H1 := by
  have e1 : (jw_ws κ σ h).set a (σ a, e) = jw_ws κ σ h1 := jw_ws_set ha hn he fun j _ hj => by
    obtain ⟨q1, q2, q3⟩ := ho j hj
    exact jw_cell_same rfl (by rw [ht]) q1 q2 (fun i => by rw [q3])
  rw [e1] at hP hD
  obtain ⟨m1, -, -, m4, m5, m6, m7⟩ := M
  refine ⟨m1, hP, hD, ?_, ?_, ?_, ?_⟩
  · rw [hn, ht]; exact m4
  · rw [hn, ht]; exact m5
  · intro k j hk hk2
    rw [hn] at hk
    rw [ht] at hk2
    by_cases hka : k = a
    · subst hka; exact hb hk2 j
    · rw [(ho k hka).1]; exact m6 k j hk hk2
  · intro k j i hk hr
    rw [hn] at hk ⊢
    by_cases hka : k = a
    · subst hka; exact hc j i hr
    · rw [(ho k hka).2.2] at hr; exact m7 k j i hk hr
section JWH
variable {d : Nat} {u : jw_U} {hi : jw_H} {pc : Nat} {L : List (Option Value)} {S : List Value} {h : jw_H} {r : Option Value ⊕ String} {hf : jw_H}
theorem jw_getI {idx c f : Nat} {o : Option Nat} {x : Int32} (hd : decode u.2.1 pc = .ok (.getfield idx, 3)) (hg : jw_gI h c o f = some x) (hl : jw_fl u.1 idx c f) (hr : jw_isR (jw_fty c f) = false) (k : jw_E d u hi (pc + 3) L (.int x :: S) h r hf) : jw_E d u hi pc L (va_rf o :: S) h r hf := by
  cases o with
  | none => exact absurd hg (by simp [jw_gI])
  | some a =>
    by_cases ht : (jw_t h a).1 = c
    · have hx : jw_i h a f = x := by simpa [jw_gI, ht] using hg
      refine ⟨k.1, k.2.1, k.2.2.1, ?_⟩
      intro p l e R s m args below meth c0 b Ls xs D A Q σ0 hC hT hX κ tys σ Hm locs cells slots ls M hs
      have ha : a < jw_n h := hs.hd a rfl
      have he : (jw_ws κ σ h)[a]? = some (σ a, .inr (c, (List.range (jw_nf c)).map (jw_fv σ h a c))) := by rw [jw_ws_get ha, jw_cell_o ht (by have := hl.1; omega)]
      have hv : ((List.range (jw_nf c)).map (jw_fv σ h a c))[f]? = some (.int x) := by simp [List.getElem?_range, hl.2.1, jw_fv, hr, hx]
      have kk := k.2.2.2 p l e R s m args below meth c0 b Ls xs D A Q σ0 hC hT hX κ tys σ Hm locs cells slots ls M (jw_okS.cons jw_ok_int hs.tl)
      rcases hl.2.2.2 with hw | ⟨host, hw⟩
      · exact va_get hC.1 hC.2.1 (Ts := jw_T) hC.2.2.2.2.1 (jw_in c hl.1) hC.2.2.2.1 M.1.1 M.1.2.1 a he (jw_cl hl.1) f hl.2.1 (hC.2.2.2.2.1 _ hw) (by rw [hl.2.2.1]; exact fun _ q => q) hv hd kk
      · exact va_getN hC.1 hC.2.1 (Ts := jw_T) hC.2.2.2.2.1 (jw_in c hl.1) hC.2.2.2.1 M.1.1 M.1.2.1 a he (jw_cl hl.1) f hl.2.1 (va_Nw.use rfl (hC.2.2.2.2.2.2.1.2.2.2.1 _ hw)) (by rw [hl.2.2.1]; exact fun _ q => q) hv hd kk
    · exact absurd hg (by simp [jw_gI, ht])
theorem jw_getR {idx c f : Nat} {o x : Option Nat} (hd : decode u.2.1 pc = .ok (.getfield idx, 3)) (hg : jw_gR h c o f = some x) (hl : jw_fl u.1 idx c f) (hr : jw_isR (jw_fty c f) = true) (k : jw_E d u hi (pc + 3) L (va_rf x :: S) h r hf) : jw_E d u hi pc L (va_rf o :: S) h r hf := by
  cases o with
  | none => exact absurd hg (by simp [jw_gR])
  | some a =>
    by_cases ht : (jw_t h a).1 = c
    · have hx : jw_r h a f = x := by simpa [jw_gR, ht] using hg
      refine ⟨k.1, k.2.1, k.2.2.1, ?_⟩
      intro p l e R s m args below meth c0 b Ls xs D A Q σ0 hC hT hX κ tys σ Hm locs cells slots ls M hs
      have ha : a < jw_n h := hs.hd a rfl
      have he : (jw_ws κ σ h)[a]? = some (σ a, .inr (c, (List.range (jw_nf c)).map (jw_fv σ h a c))) := by rw [jw_ws_get ha, jw_cell_o ht (by have := hl.1; omega)]
      have hv : ((List.range (jw_nf c)).map (jw_fv σ h a c))[f]? = some (va_rf (x.map σ)) := by simp [List.getElem?_range, hl.2.1, jw_fv, hr, hx]
      have kk := k.2.2.2 p l e R s m args below meth c0 b Ls xs D A Q σ0 hC hT hX κ tys σ Hm locs cells slots ls M (jw_okS.cons (jw_ok_rf fun i hi2 => M.1.2.2.2.2.2.2 a f i ha (hx.trans hi2)) hs.tl)
      rw [List.map_cons, jw_v_rf] at kk
      rcases hl.2.2.2 with hw | ⟨host, hw⟩
      · exact va_get hC.1 hC.2.1 (Ts := jw_T) hC.2.2.2.2.1 (jw_in c hl.1) hC.2.2.2.1 M.1.1 M.1.2.1 a he (jw_cl hl.1) f hl.2.1 (hC.2.2.2.2.1 _ hw) (by rw [hl.2.2.1]; exact fun _ q => q) hv hd kk
      · exact va_getN hC.1 hC.2.1 (Ts := jw_T) hC.2.2.2.2.1 (jw_in c hl.1) hC.2.2.2.1 M.1.1 M.1.2.1 a he (jw_cl hl.1) f hl.2.1 (va_Nw.use rfl (hC.2.2.2.2.2.2.1.2.2.2.1 _ hw)) (by rw [hl.2.2.1]; exact fun _ q => q) hv hd kk
    · exact absurd hg (by simp [jw_gR, ht])
theorem jw_ix_spec {h : jw_H} {t : Nat} {o : Option Nat} {x : Int32} {q : Nat × Nat} (e : jw_ix h t o x = some q) : ∃ a, o = some a ∧ (jw_t h a).1 = t ∧ vp_in x (jw_t h a).2 ∧ q = (a, x.toNatClampNeg) := by
  cases o with
  | none => exact absurd e (by simp [jw_ix])
  | some a =>
    by_cases hc : (jw_t h a).1 = t ∧ ¬ (x < 0 ∨ (jw_t h a).2 ≤ x.toNatClampNeg)
    · simp only [jw_ix, if_pos hc] at e
      exact ⟨a, rfl, hc.1, hc.2, (Option.some.inj e).symm⟩
    · simp only [jw_ix, if_neg hc] at e
      cases e
theorem jw_tys {D : va_G} {κ : Nat → ClassId} {tys : List (ClassId × FieldType)} {σ : Nat → Nat} {h : jw_H} {A : Nat → Prop} {s : State} {Hm : Heap} {a : Nat} (M : jw_R D κ tys σ h A s Hm) (ha : a < jw_n h) (ht : 20 ≤ (jw_t h a).1) : ∃ t0 : Nat, tys[t0]? = some (κ a, jw_aty (jw_t h a).1) :=
  List.getElem?_of_mem (M.2.2.2.1 a ha ht)
theorem jw_putI {idx c f : Nat} {o : Option Nat} {x : Int32} {h1 : jw_H} (hd : decode u.2.1 pc = .ok (.putfield idx, 3)) (hp : jw_pI h c o f x = some h1) (hl : jw_fl u.1 idx c f) (hty : jw_fty c f = .int) (hfin : (jw_TX c f).2.2.2 = false) (k : jw_E d u hi (pc + 3) L S h1 r hf) : jw_E d u hi pc L (.int x :: va_rf o :: S) h r hf := by
  cases o with
  | none => exact absurd hp (by simp [jw_pI])
  | some a =>
    by_cases hq : (jw_t h a).1 = c
    · have e1 : jw_setI h a f x = h1 := by simp only [jw_pI, if_pos hq] at hp; exact Option.some.inj hp
      have ht := hq
      subst e1
      refine ⟨k.1, k.2.1, k.2.2.1, ?_⟩
      intro p l e R s m args below meth c0 b Ls xs D A Q σ0 hC hT hX κ tys σ Hm locs cells slots ls M hs
      have ha : a < jw_n h := hs.tl.hd a rfl
      have hc20 : c < 20 := by have := hl.1; omega
      have he : (jw_ws κ σ h)[a]? = some (σ a, .inr (c, (List.range (jw_nf c)).map (jw_fv σ h a c))) := by rw [jw_ws_get ha, jw_cell_o ht hc20]
      have hpd : parseFieldDescriptor (jw_TX c f).2.2.1 = some (jw_fty c f) := jw_tyok c hl.1 f hl.2.1
      have hrR : jw_isR (jw_fty c f) = false := by rw [hty]; rfl
      have hcell : jw_cell κ σ (jw_setI h a f x) a = .inr (c, ((List.range (jw_nf c)).map (jw_fv σ h a c)).set f (.int x)) := by
        rw [jw_cell_o (h := jw_setI h a f x) (by exact ht) hc20, jw_fs_set (g' := jw_fv σ (jw_setI h a f x) a c)]
        · simp [jw_fv, hrR, jw_i_I, jw_r_I, jw_u]
        · intro j hj
          simp [jw_fv, jw_i_I, jw_r_I, jw_u, hj]
      have go : ∀ (H1 : Heap) (locs1 : List Loc), va_P D vwCl ((jw_ws κ σ h).set a (σ a, .inr (c, ((List.range (jw_nf c)).map (jw_fv σ h a c)).set f (.int x)))) H1 → va_D A ((jw_ws κ σ h).set a (σ a, .inr (c, ((List.range (jw_nf c)).map (jw_fv σ h a c)).set f (.int x)))) → va_S A s.heap H1 locs1 → W p l e R s m args below meth c0 H1 locs1 cells slots Q (F0 m (pc + 3) ls (S.map (jw_v σ b))) := fun H1 locs1 hP hD hS =>
        k.2.2.2 p l e R s m args below meth c0 b Ls xs D A Q σ0 hC hT hX κ tys σ H1 locs1 cells slots ls ⟨M.1.setc ha rfl rfl hP hD hcell (fun j hj => ⟨jw_u_ne hj, rfl, rfl⟩) (fun q => by omega) (fun j i q => M.1.2.2.2.2.2.2 a j i ha q), hS, M.2.2.1, M.2.2.2.1, M.2.2.2.2⟩ hs.tl.tl
      rcases hl.2.2.2 with hw | ⟨host, hw⟩
      · exact va_put hC.1 hC.2.1 (Ts := jw_T) hC.2.2.2.2.1 (jw_in c hl.1) (jw_fty c) (jw_tyok c hl.1) (jw_nmok c hl.1) hC.2.2.2.1 M.1.1 M.1.2.1 M.1.2.2.1 M.2.1 a he (jw_cl hl.1) f hl.2.1 (hC.2.2.2.2.1 _ hw) (by rw [hl.2.2.1]; exact fun _ q => q) hfin hpd (by rw [hty]; rfl) (by rw [hty]; rfl) (by simpa using hl.2.1) hd go
      · exact va_putN hC.1 hC.2.1 (Ts := jw_T) hC.2.2.2.2.1 (jw_in c hl.1) (jw_fty c) (jw_tyok c hl.1) (jw_nmok c hl.1) hC.2.2.2.1 M.1.1 M.1.2.1 M.1.2.2.1 M.2.1 a he (jw_cl hl.1) f hl.2.1 (va_Nw.use rfl (hC.2.2.2.2.2.2.1.2.2.2.1 _ hw)) (by rw [hl.2.2.1]; exact fun _ q => q) hfin hpd (by rw [hty]; rfl) (by rw [hty]; rfl) (by simpa using hl.2.1) hd go
    · exact absurd hp (by simp only [jw_pI, if_neg hq]; exact fun z => nomatch z)

theorem jw_putB {idx c f : Nat} {o : Option Nat} {x : Int32} {h1 : jw_H} (hd : decode u.2.1 pc = .ok (.putfield idx, 3)) (hp : jw_pB h c o f x = some h1) (hl : jw_fl u.1 idx c f) (hty : jw_fty c f = .boolean) (hfin : (jw_TX c f).2.2.2 = false) (k : jw_E d u hi (pc + 3) L S h1 r hf) : jw_E d u hi pc L (.int x :: va_rf o :: S) h r hf := by
  cases o with
  | none => exact absurd hp (by simp [jw_pB])
  | some a =>
    by_cases hq : (jw_t h a).1 = c ∧ (x = 0 ∨ x = 1)
    · have e1 : jw_setI h a f x = h1 := by simp only [jw_pB, if_pos hq] at hp; exact Option.some.inj hp
      obtain ⟨ht, hx⟩ := hq
      subst e1
      refine ⟨k.1, k.2.1, k.2.2.1, ?_⟩
      intro p l e R s m args below meth c0 b Ls xs D A Q σ0 hC hT hX κ tys σ Hm locs cells slots ls M hs
      have ha : a < jw_n h := hs.tl.hd a rfl
      have hc20 : c < 20 := by have := hl.1; omega
      have he : (jw_ws κ σ h)[a]? = some (σ a, .inr (c, (List.range (jw_nf c)).map (jw_fv σ h a c))) := by rw [jw_ws_get ha, jw_cell_o ht hc20]
      have hpd : parseFieldDescriptor (jw_TX c f).2.2.1 = some (jw_fty c f) := jw_tyok c hl.1 f hl.2.1
      have hrR : jw_isR (jw_fty c f) = false := by rw [hty]; rfl
      have hcell : jw_cell κ σ (jw_setI h a f x) a = .inr (c, ((List.range (jw_nf c)).map (jw_fv σ h a c)).set f (.int x)) := by
        rw [jw_cell_o (h := jw_setI h a f x) (by exact ht) hc20, jw_fs_set (g' := jw_fv σ (jw_setI h a f x) a c)]
        · simp [jw_fv, hrR, jw_i_I, jw_r_I, jw_u]
        · intro j hj
          simp [jw_fv, jw_i_I, jw_r_I, jw_u, hj]
      have go : ∀ (H1 : Heap) (locs1 : List Loc), va_P D vwCl ((jw_ws κ σ h).set a (σ a, .inr (c, ((List.range (jw_nf c)).map (jw_fv σ h a c)).set f (.int x)))) H1 → va_D A ((jw_ws κ σ h).set a (σ a, .inr (c, ((List.range (jw_nf c)).map (jw_fv σ h a c)).set f (.int x)))) → va_S A s.heap H1 locs1 → W p l e R s m args below meth c0 H1 locs1 cells slots Q (F0 m (pc + 3) ls (S.map (jw_v σ b))) := fun H1 locs1 hP hD hS =>
        k.2.2.2 p l e R s m args below meth c0 b Ls xs D A Q σ0 hC hT hX κ tys σ H1 locs1 cells slots ls ⟨M.1.setc ha rfl rfl hP hD hcell (fun j hj => ⟨jw_u_ne hj, rfl, rfl⟩) (fun q => by omega) (fun j i q => M.1.2.2.2.2.2.2 a j i ha q), hS, M.2.2.1, M.2.2.2.1, M.2.2.2.2⟩ hs.tl.tl
      rcases hl.2.2.2 with hw | ⟨host, hw⟩
      · exact va_put hC.1 hC.2.1 (Ts := jw_T) hC.2.2.2.2.1 (jw_in c hl.1) (jw_fty c) (jw_tyok c hl.1) (jw_nmok c hl.1) hC.2.2.2.1 M.1.1 M.1.2.1 M.1.2.2.1 M.2.1 a he (jw_cl hl.1) f hl.2.1 (hC.2.2.2.2.1 _ hw) (by rw [hl.2.2.1]; exact fun _ q => q) hfin hpd (by rw [hty]; rcases hx with rfl | rfl <;> rfl) (by rw [hty]; rcases hx with rfl | rfl <;> rfl) (by simpa using hl.2.1) hd go
      · exact va_putN hC.1 hC.2.1 (Ts := jw_T) hC.2.2.2.2.1 (jw_in c hl.1) (jw_fty c) (jw_tyok c hl.1) (jw_nmok c hl.1) hC.2.2.2.1 M.1.1 M.1.2.1 M.1.2.2.1 M.2.1 a he (jw_cl hl.1) f hl.2.1 (va_Nw.use rfl (hC.2.2.2.2.2.2.1.2.2.2.1 _ hw)) (by rw [hl.2.2.1]; exact fun _ q => q) hfin hpd (by rw [hty]; rcases hx with rfl | rfl <;> rfl) (by rw [hty]; rcases hx with rfl | rfl <;> rfl) (by simpa using hl.2.1) hd go
    · exact absurd hp (by simp only [jw_pB, if_neg hq]; exact fun z => nomatch z)

theorem jw_putR {idx c f : Nat} {o x : Option Nat} {h1 : jw_H} (hd : decode u.2.1 pc = .ok (.putfield idx, 3)) (hp : jw_pR h c o f x = some h1) (hl : jw_fl u.1 idx c f) (hty : jw_isR (jw_fty c f) = true) (hfin : (jw_TX c f).2.2.2 = false) (k : jw_E d u hi (pc + 3) L S h1 r hf) : jw_E d u hi pc L (va_rf x :: va_rf o :: S) h r hf := by
  cases o with
  | none => exact absurd hp (by simp [jw_pR])
  | some a =>
    by_cases ht : (jw_t h a).1 = c
    · have e1 : jw_setR h a f x = h1 := by simp only [jw_pR, if_pos ht] at hp; exact Option.some.inj hp
      subst e1
      refine ⟨k.1, k.2.1, k.2.2.1, ?_⟩
      intro p l e R s m args below meth c0 b Ls xs D A Q σ0 hC hT hX κ tys σ Hm locs cells slots ls M hs
      have ha : a < jw_n h := hs.tl.hd a rfl
      have hc20 : c < 20 := by have := hl.1; omega
      have he : (jw_ws κ σ h)[a]? = some (σ a, .inr (c, (List.range (jw_nf c)).map (jw_fv σ h a c))) := by rw [jw_ws_get ha, jw_cell_o ht hc20]
      have hpd : parseFieldDescriptor (jw_TX c f).2.2.1 = some (jw_fty c f) := jw_tyok c hl.1 f hl.2.1
      have hcell : jw_cell κ σ (jw_setR h a f x) a = .inr (c, ((List.range (jw_nf c)).map (jw_fv σ h a c)).set f (va_rf (x.map σ))) := by
        rw [jw_cell_o (h := jw_setR h a f x) (by exact ht) hc20, jw_fs_set (g' := jw_fv σ (jw_setR h a f x) a c)]
        · simp [jw_fv, hty, jw_i_R, jw_r_R, jw_u]
        · intro j hj
          simp [jw_fv, jw_i_R, jw_r_R, jw_u, hj]
      have hn1 : narrow (jw_fty c f) (va_rf (x.map σ)) = va_rf (x.map σ) ∧ fits (jw_fty c f) (va_rf (x.map σ)) = true := jw_nf_ref hty
      have hcl : ∀ j i, jw_r (jw_setR h a f x) a j = some i → i < jw_n h := by
        intro j i q
        simp only [jw_r_R, jw_u_eq] at q
        by_cases hj : j = f
        · rw [if_pos hj] at q; exact jw_rf_ok hs.hd q
        · rw [if_neg hj] at q; exact M.1.2.2.2.2.2.2 a j i ha q
      have go : ∀ (H1 : Heap) (locs1 : List Loc), va_P D vwCl ((jw_ws κ σ h).set a (σ a, .inr (c, ((List.range (jw_nf c)).map (jw_fv σ h a c)).set f (va_rf (x.map σ))))) H1 → va_D A ((jw_ws κ σ h).set a (σ a, .inr (c, ((List.range (jw_nf c)).map (jw_fv σ h a c)).set f (va_rf (x.map σ))))) → va_S A s.heap H1 locs1 → W p l e R s m args below meth c0 H1 locs1 cells slots Q (F0 m (pc + 3) ls (S.map (jw_v σ b))) := fun H1 locs1 hP hD hS =>
        k.2.2.2 p l e R s m args below meth c0 b Ls xs D A Q σ0 hC hT hX κ tys σ H1 locs1 cells slots ls ⟨M.1.setc ha rfl rfl hP hD hcell (fun j hj => ⟨rfl, rfl, jw_u_ne hj⟩) (fun q => by omega) hcl, hS, M.2.2.1, M.2.2.2.1, M.2.2.2.2⟩ hs.tl.tl
      rw [List.map_cons, jw_v_rf]
      rcases hl.2.2.2 with hw | ⟨host, hw⟩
      · exact va_put hC.1 hC.2.1 (Ts := jw_T) hC.2.2.2.2.1 (jw_in c hl.1) (jw_fty c) (jw_tyok c hl.1) (jw_nmok c hl.1) hC.2.2.2.1 M.1.1 M.1.2.1 M.1.2.2.1 M.2.1 a he (jw_cl hl.1) f hl.2.1 (hC.2.2.2.2.1 _ hw) (by rw [hl.2.2.1]; exact fun _ q => q) hfin hpd hn1.1 hn1.2 (by simpa using hl.2.1) hd go
      · exact va_putN hC.1 hC.2.1 (Ts := jw_T) hC.2.2.2.2.1 (jw_in c hl.1) (jw_fty c) (jw_tyok c hl.1) (jw_nmok c hl.1) hC.2.2.2.1 M.1.1 M.1.2.1 M.1.2.2.1 M.2.1 a he (jw_cl hl.1) f hl.2.1 (va_Nw.use rfl (hC.2.2.2.2.2.2.1.2.2.2.1 _ hw)) (by rw [hl.2.2.1]; exact fun _ q => q) hfin hpd hn1.1 hn1.2 (by simpa using hl.2.1) hd go
    · exact absurd hp (by simp only [jw_pR, if_neg ht]; exact fun z => nomatch z)

theorem jw_putF {idx c f : Nat} {o x : Option Nat} {h1 : jw_H} (hd : decode u.2.1 pc = .ok (.putfield idx, 3)) (hp : jw_pR h c o f x = some h1) (hl : jw_fl u.1 idx c f) (hlk : Cond.fieldLink u.1 idx (jw_cn c) (jw_TX c f).2.1 (jw_TX c f).2.2.1 ∈ jw_T) (hty : jw_isR (jw_fty c f) = true) (hfin : (jw_TX c f).2.2.2 = true) (hown : jw_cn c = u.1) (hini : u.2.2.2.1 = true) (k : jw_E d u hi (pc + 3) L S h1 r hf) : jw_E d u hi pc L (va_rf x :: va_rf o :: S) h r hf := by
  cases o with
  | none => exact absurd hp (by simp [jw_pR])
  | some a =>
    by_cases ht : (jw_t h a).1 = c
    · have e1 : jw_setR h a f x = h1 := by simp only [jw_pR, if_pos ht] at hp; exact Option.some.inj hp
      subst e1
      refine ⟨k.1, k.2.1, k.2.2.1, ?_⟩
      intro p l e R s m args below meth c0 b Ls xs D A Q σ0 hC hT hX κ tys σ Hm locs cells slots ls M hs
      have ha : a < jw_n h := hs.tl.hd a rfl
      have hc20 : c < 20 := by have := hl.1; omega
      have he : (jw_ws κ σ h)[a]? = some (σ a, .inr (c, (List.range (jw_nf c)).map (jw_fv σ h a c))) := by rw [jw_ws_get ha, jw_cell_o ht hc20]
      have hpd : parseFieldDescriptor (jw_TX c f).2.2.1 = some (jw_fty c f) := jw_tyok c hl.1 f hl.2.1
      have hcell : jw_cell κ σ (jw_setR h a f x) a = .inr (c, ((List.range (jw_nf c)).map (jw_fv σ h a c)).set f (va_rf (x.map σ))) := by
        rw [jw_cell_o (h := jw_setR h a f x) (by exact ht) hc20, jw_fs_set (g' := jw_fv σ (jw_setR h a f x) a c)]
        · simp [jw_fv, hty, jw_i_R, jw_r_R, jw_u]
        · intro j hj
          simp [jw_fv, jw_i_R, jw_r_R, jw_u, hj]
      have hn1 : narrow (jw_fty c f) (va_rf (x.map σ)) = va_rf (x.map σ) ∧ fits (jw_fty c f) (va_rf (x.map σ)) = true := jw_nf_ref hty
      have hcl : ∀ j i, jw_r (jw_setR h a f x) a j = some i → i < jw_n h := by
        intro j i q
        simp only [jw_r_R, jw_u_eq] at q
        by_cases hj : j = f
        · rw [if_pos hj] at q; exact jw_rf_ok hs.hd q
        · rw [if_neg hj] at q; exact M.1.2.2.2.2.2.2 a j i ha q
      have go : ∀ (H1 : Heap) (locs1 : List Loc), va_P D vwCl ((jw_ws κ σ h).set a (σ a, .inr (c, ((List.range (jw_nf c)).map (jw_fv σ h a c)).set f (va_rf (x.map σ))))) H1 → va_D A ((jw_ws κ σ h).set a (σ a, .inr (c, ((List.range (jw_nf c)).map (jw_fv σ h a c)).set f (va_rf (x.map σ))))) → va_S A s.heap H1 locs1 → W p l e R s m args below meth c0 H1 locs1 cells slots Q (F0 m (pc + 3) ls (S.map (jw_v σ b))) := fun H1 locs1 hP hD hS =>
        k.2.2.2 p l e R s m args below meth c0 b Ls xs D A Q σ0 hC hT hX κ tys σ H1 locs1 cells slots ls ⟨M.1.setc ha rfl rfl hP hD hcell (fun j hj => ⟨rfl, rfl, jw_u_ne hj⟩) (fun q => by omega) hcl, hS, M.2.2.1, M.2.2.2.1, M.2.2.2.2⟩ hs.tl.tl
      rw [List.map_cons, jw_v_rf]
      exact va_putF hC.1 hC.2.1 (Ts := jw_T) hC.2.2.2.2.1 (jw_in c hl.1) (jw_fty c) (jw_tyok c hl.1) (jw_nmok c hl.1) hC.2.2.2.1 M.1.1 M.1.2.1 M.1.2.2.1 M.2.1 a he (jw_cl hl.1) f hl.2.1 (hC.2.2.2.2.1 _ hlk) (by rw [hl.2.2.1]; exact fun _ q => q) hfin (hC.2.2.2.2.2.2.2.2.2.2.2.2.1 hini) (hl.2.2.1.trans hown) hpd hn1.1 hn1.2 (by simpa using hl.2.1) hd go
    · exact absurd hp (by simp only [jw_pR, if_neg ht]; exact fun z => nomatch z)

theorem jw_iald {o : Option Nat} {x : Int32} {v : Int32} (hd : decode u.2.1 pc = .ok (.iaload, 1)) (hg : jw_ai h 20 o x = some v) (k : jw_E d u hi (pc + 1) L (.int v :: S) h r hf) : jw_E d u hi pc L (.int x :: va_rf o :: S) h r hf := by
  obtain ⟨q, hq, hv⟩ := Option.map_eq_some_iff.mp hg
  obtain ⟨a, rfl, ht, hin, rfl⟩ := jw_ix_spec hq
  have hv2 : jw_i h a x.toNatClampNeg = v := hv
  refine ⟨k.1, k.2.1, k.2.2.1, ?_⟩
  intro p l e R s m args below meth c0 b Ls xs D A Q σ0 hC hT hX κ tys σ Hm locs cells slots ls M hs
  have ha : a < jw_n h := hs.tl.hd a rfl
  have kk := k.2.2.2 p l e R s m args below meth c0 b Ls xs D A Q σ0 hC hT hX κ tys σ Hm locs cells slots ls M (jw_okS.cons jw_ok_int hs.tl.tl)
  obtain ⟨t0, ht0⟩ := jw_tys M.1 ha (by omega)
  rw [ht] at ht0
  rw [← hv2] at kk
  exact va_iald hC.1 hC.2.1 M.1.1 M.1.2.1 a t0 (cA := κ a) (n := (jw_t h a).2) (f := jw_i h a) (by rw [jw_ws_get ha, jw_cell_a (by omega), jw_ac_i (by omega)]) ht0 hin hd kk

theorem jw_bald {o : Option Nat} {x : Int32} {v : Int32} (hd : decode u.2.1 pc = .ok (.baload, 1)) (hg : jw_ai h 21 o x = some v) (k : jw_E d u hi (pc + 1) L (.int v :: S) h r hf) : jw_E d u hi pc L (.int x :: va_rf o :: S) h r hf := by
  obtain ⟨q, hq, hv⟩ := Option.map_eq_some_iff.mp hg
  obtain ⟨a, rfl, ht, hin, rfl⟩ := jw_ix_spec hq
  have hv2 : jw_i h a x.toNatClampNeg = v := hv
  refine ⟨k.1, k.2.1, k.2.2.1, ?_⟩
  intro p l e R s m args below meth c0 b Ls xs D A Q σ0 hC hT hX κ tys σ Hm locs cells slots ls M hs
  have ha : a < jw_n h := hs.tl.hd a rfl
  have kk := k.2.2.2 p l e R s m args below meth c0 b Ls xs D A Q σ0 hC hT hX κ tys σ Hm locs cells slots ls M (jw_okS.cons jw_ok_int hs.tl.tl)
  obtain ⟨t0, ht0⟩ := jw_tys M.1 ha (by omega)
  rw [ht] at ht0
  rw [← hv2] at kk
  exact va_bald hC.1 hC.2.1 M.1.1 M.1.2.1 a t0 (cA := κ a) (n := (jw_t h a).2) (f := jw_i h a) (by rw [jw_ws_get ha, jw_cell_a (by omega), jw_ac_i (by omega)]) ht0 hin hd kk

theorem jw_zald {o : Option Nat} {x : Int32} {v : Int32} (hd : decode u.2.1 pc = .ok (.baload, 1)) (hg : jw_ai h 22 o x = some v) (k : jw_E d u hi (pc + 1) L (.int v :: S) h r hf) : jw_E d u hi pc L (.int x :: va_rf o :: S) h r hf := by
  obtain ⟨q, hq, hv⟩ := Option.map_eq_some_iff.mp hg
  obtain ⟨a, rfl, ht, hin, rfl⟩ := jw_ix_spec hq
  have hv2 : jw_i h a x.toNatClampNeg = v := hv
  refine ⟨k.1, k.2.1, k.2.2.1, ?_⟩
  intro p l e R s m args below meth c0 b Ls xs D A Q σ0 hC hT hX κ tys σ Hm locs cells slots ls M hs
  have ha : a < jw_n h := hs.tl.hd a rfl
  have kk := k.2.2.2 p l e R s m args below meth c0 b Ls xs D A Q σ0 hC hT hX κ tys σ Hm locs cells slots ls M (jw_okS.cons jw_ok_int hs.tl.tl)
  obtain ⟨t0, ht0⟩ := jw_tys M.1 ha (by omega)
  rw [ht] at ht0
  rw [← hv2] at kk
  exact va_zald hC.1 hC.2.1 M.1.1 M.1.2.1 a t0 (cA := κ a) (n := (jw_t h a).2) (f := jw_i h a) (by rw [jw_ws_get ha, jw_cell_a (by omega), jw_ac_i (by omega)]) ht0 hin hd kk

theorem jw_lald {o : Option Nat} {x : Int32} {v : Int64} (hd : decode u.2.1 pc = .ok (.laload, 1)) (hg : jw_al h o x = some v) (k : jw_E d u hi (pc + 1) L (.long v :: S) h r hf) : jw_E d u hi pc L (.int x :: va_rf o :: S) h r hf := by
  obtain ⟨q, hq, hv⟩ := Option.map_eq_some_iff.mp hg
  obtain ⟨a, rfl, ht, hin, rfl⟩ := jw_ix_spec hq
  have hv2 : jw_l h a x.toNatClampNeg = v := hv
  refine ⟨k.1, k.2.1, k.2.2.1, ?_⟩
  intro p l e R s m args below meth c0 b Ls xs D A Q σ0 hC hT hX κ tys σ Hm locs cells slots ls M hs
  have ha : a < jw_n h := hs.tl.hd a rfl
  have kk := k.2.2.2 p l e R s m args below meth c0 b Ls xs D A Q σ0 hC hT hX κ tys σ Hm locs cells slots ls M (jw_okS.cons jw_ok_long hs.tl.tl)
  obtain ⟨t0, ht0⟩ := jw_tys M.1 ha (by omega)
  rw [ht] at ht0
  rw [← hv2] at kk
  exact va_lald hC.1 hC.2.1 M.1.1 M.1.2.1 a t0 (cA := κ a) (n := (jw_t h a).2) (f := jw_l h a) (by rw [jw_ws_get ha, jw_cell_a (by omega), jw_ac_l ht]) ht0 hin hd kk

theorem jw_aald {t : Nat} (ht24 : 24 < t) {o : Option Nat} {x : Int32} {v : Option Nat} (hd : decode u.2.1 pc = .ok (.aaload, 1)) (hg : jw_ar h t o x = some v) (k : jw_E d u hi (pc + 1) L (va_rf v :: S) h r hf) : jw_E d u hi pc L (.int x :: va_rf o :: S) h r hf := by
  obtain ⟨q, hq, hv⟩ := Option.map_eq_some_iff.mp hg
  obtain ⟨a, rfl, ht, hin, rfl⟩ := jw_ix_spec hq
  have hv2 : jw_r h a x.toNatClampNeg = v := hv
  refine ⟨k.1, k.2.1, k.2.2.1, ?_⟩
  intro p l e R s m args below meth c0 b Ls xs D A Q σ0 hC hT hX κ tys σ Hm locs cells slots ls M hs
  have ha : a < jw_n h := hs.tl.hd a rfl
  have kk := k.2.2.2 p l e R s m args below meth c0 b Ls xs D A Q σ0 hC hT hX κ tys σ Hm locs cells slots ls M (jw_okS.cons (jw_ok_rf fun i hi2 => M.1.2.2.2.2.2.2 a _ i ha (hv2.trans hi2)) hs.tl.tl)
  obtain ⟨t0, ht0⟩ := jw_tys M.1 ha (by omega)
  rw [ht, jw_aty_o ht24] at ht0
  rw [List.map_cons, jw_v_rf, ← hv2] at kk
  exact va_aldq hC.1 hC.2.1 M.1.1 M.1.2.1 a t0 (cA := κ a) (n := (jw_t h a).2) (f := fun j => (jw_r h a j).map σ) (by rw [jw_ws_get ha, jw_cell_a (by omega), jw_ac_r (by omega)]) ht0 hin hd kk

theorem jw_iast {o : Option Nat} {x : Int32} {v : Int32}  {h1 : jw_H} (hd : decode u.2.1 pc = .ok (.iastore, 1)) (hg : jw_si h 20 o x v = some h1) (k : jw_E d u hi (pc + 1) L S h1 r hf) : jw_E d u hi pc L (.int v :: .int x :: va_rf o :: S) h r hf := by
  obtain ⟨q, hq, hv⟩ := Option.map_eq_some_iff.mp hg
  obtain ⟨a, rfl, ht, hin, rfl⟩ := jw_ix_spec hq
  have hv2 : jw_setI h a x.toNatClampNeg (v) = h1 := hv
  subst hv2
  refine ⟨k.1, k.2.1, k.2.2.1, ?_⟩
  intro p l e R s m args below meth c0 b Ls xs D A Q σ0 hC hT hX κ tys σ Hm locs cells slots ls M hs
  have ha : a < jw_n h := hs.tl.tl.hd a rfl
  obtain ⟨t0, ht0⟩ := jw_tys M.1 ha (by omega)
  rw [ht] at ht0
  refine va_iast hC.1 hC.2.1 M.1.1 M.1.2.1 M.1.2.2.1 M.2.1 a t0 (cA := κ a) (n := (jw_t h a).2) (f := jw_i h a) (by rw [jw_ws_get ha, jw_cell_a (by omega), jw_ac_i (by omega)]) ht0 hin hd fun H1 locs1 hP hD hS => ?_
  refine k.2.2.2 p l e R s m args below meth c0 b Ls xs D A Q σ0 hC hT hX κ tys σ H1 locs1 cells slots ls ⟨M.1.setc ha rfl rfl hP hD ?_ ?_ (fun q => by omega) (fun j i q => M.1.2.2.2.2.2.2 a j i ha q), hS, M.2.2.1, M.2.2.2.1, M.2.2.2.2⟩ hs.tl.tl.tl
  · rw [jw_cell_a (h := jw_setI h a x.toNatClampNeg (v)) (by show 20 ≤ (jw_t h a).1; omega)]
    have e2 : jw_ac σ (jw_setI h a x.toNatClampNeg (v)) a = .inl (upd (jw_i h a) x.toNatClampNeg (v)) := by
      have e3 : jw_i (jw_setI h a x.toNatClampNeg (v)) a = upd (jw_i h a) x.toNatClampNeg (v) := by
        funext j
        simp [jw_i_I, jw_l_L, jw_u, upd]
      rw [← e3]
      exact jw_ac_i (h := jw_setI h a x.toNatClampNeg (v)) (by show (jw_t h a).1 < 23; omega)
    rw [e2]
    rfl
  · intro j hj
    exact ⟨jw_u_ne hj, rfl, rfl⟩

theorem jw_bast {o : Option Nat} {x : Int32} {v : Int32} {w : Int32} (hw : vp_nar .byte w = v) {h1 : jw_H} (hd : decode u.2.1 pc = .ok (.bastore, 1)) (hg : jw_si h 21 o x v = some h1) (k : jw_E d u hi (pc + 1) L S h1 r hf) : jw_E d u hi pc L (.int w :: .int x :: va_rf o :: S) h r hf := by
  subst hw
  obtain ⟨q, hq, hv⟩ := Option.map_eq_some_iff.mp hg
  obtain ⟨a, rfl, ht, hin, rfl⟩ := jw_ix_spec hq
  have hv2 : jw_setI h a x.toNatClampNeg (vp_nar .byte w) = h1 := hv
  subst hv2
  refine ⟨k.1, k.2.1, k.2.2.1, ?_⟩
  intro p l e R s m args below meth c0 b Ls xs D A Q σ0 hC hT hX κ tys σ Hm locs cells slots ls M hs
  have ha : a < jw_n h := hs.tl.tl.hd a rfl
  obtain ⟨t0, ht0⟩ := jw_tys M.1 ha (by omega)
  rw [ht] at ht0
  refine va_bast hC.1 hC.2.1 M.1.1 M.1.2.1 M.1.2.2.1 M.2.1 a t0 (cA := κ a) (n := (jw_t h a).2) (f := jw_i h a) (by rw [jw_ws_get ha, jw_cell_a (by omega), jw_ac_i (by omega)]) ht0 hin hd fun H1 locs1 hP hD hS => ?_
  refine k.2.2.2 p l e R s m args below meth c0 b Ls xs D A Q σ0 hC hT hX κ tys σ H1 locs1 cells slots ls ⟨M.1.setc ha rfl rfl hP hD ?_ ?_ (fun _ j => by
      simp only [jw_i_I, jw_u_eq]
      by_cases hj : j = x.toNatClampNeg
      · rw [if_pos hj]; exact jw_fitb w
      · rw [if_neg hj]; exact M.1.2.2.2.2.2.1 a j ha ht) (fun j i q => M.1.2.2.2.2.2.2 a j i ha q), hS, M.2.2.1, M.2.2.2.1, M.2.2.2.2⟩ hs.tl.tl.tl
  · rw [jw_cell_a (h := jw_setI h a x.toNatClampNeg (vp_nar .byte w)) (by show 20 ≤ (jw_t h a).1; omega)]
    have e2 : jw_ac σ (jw_setI h a x.toNatClampNeg (vp_nar .byte w)) a = .inl (upd (jw_i h a) x.toNatClampNeg (vp_nar .byte w)) := by
      have e3 : jw_i (jw_setI h a x.toNatClampNeg (vp_nar .byte w)) a = upd (jw_i h a) x.toNatClampNeg (vp_nar .byte w) := by
        funext j
        simp [jw_i_I, jw_l_L, jw_u, upd]
      rw [← e3]
      exact jw_ac_i (h := jw_setI h a x.toNatClampNeg (vp_nar .byte w)) (by show (jw_t h a).1 < 23; omega)
    rw [e2]
    rfl
  · intro j hj
    exact ⟨jw_u_ne hj, rfl, rfl⟩

theorem jw_zast {o : Option Nat} {x : Int32} {v : Int32} {w : Int32} (hw : vp_nar .boolean w = v) {h1 : jw_H} (hd : decode u.2.1 pc = .ok (.bastore, 1)) (hg : jw_si h 22 o x v = some h1) (k : jw_E d u hi (pc + 1) L S h1 r hf) : jw_E d u hi pc L (.int w :: .int x :: va_rf o :: S) h r hf := by
  subst hw
  obtain ⟨q, hq, hv⟩ := Option.map_eq_some_iff.mp hg
  obtain ⟨a, rfl, ht, hin, rfl⟩ := jw_ix_spec hq
  have hv2 : jw_setI h a x.toNatClampNeg (vp_nar .boolean w) = h1 := hv
  subst hv2
  refine ⟨k.1, k.2.1, k.2.2.1, ?_⟩
  intro p l e R s m args below meth c0 b Ls xs D A Q σ0 hC hT hX κ tys σ Hm locs cells slots ls M hs
  have ha : a < jw_n h := hs.tl.tl.hd a rfl
  obtain ⟨t0, ht0⟩ := jw_tys M.1 ha (by omega)
  rw [ht] at ht0
  refine va_zast hC.1 hC.2.1 M.1.1 M.1.2.1 M.1.2.2.1 M.2.1 a t0 (cA := κ a) (n := (jw_t h a).2) (f := jw_i h a) (by rw [jw_ws_get ha, jw_cell_a (by omega), jw_ac_i (by omega)]) ht0 hin hd fun H1 locs1 hP hD hS => ?_
  refine k.2.2.2 p l e R s m args below meth c0 b Ls xs D A Q σ0 hC hT hX κ tys σ H1 locs1 cells slots ls ⟨M.1.setc ha rfl rfl hP hD ?_ ?_ (fun q => by omega) (fun j i q => M.1.2.2.2.2.2.2 a j i ha q), hS, M.2.2.1, M.2.2.2.1, M.2.2.2.2⟩ hs.tl.tl.tl
  · rw [jw_cell_a (h := jw_setI h a x.toNatClampNeg (vp_nar .boolean w)) (by show 20 ≤ (jw_t h a).1; omega)]
    have e2 : jw_ac σ (jw_setI h a x.toNatClampNeg (vp_nar .boolean w)) a = .inl (upd (jw_i h a) x.toNatClampNeg (vp_nar .boolean w)) := by
      have e3 : jw_i (jw_setI h a x.toNatClampNeg (vp_nar .boolean w)) a = upd (jw_i h a) x.toNatClampNeg (vp_nar .boolean w) := by
        funext j
        simp [jw_i_I, jw_l_L, jw_u, upd]
      rw [← e3]
      exact jw_ac_i (h := jw_setI h a x.toNatClampNeg (vp_nar .boolean w)) (by show (jw_t h a).1 < 23; omega)
    rw [e2]
    rfl
  · intro j hj
    exact ⟨jw_u_ne hj, rfl, rfl⟩

theorem jw_last {o : Option Nat} {x : Int32} {v : Int64}  {h1 : jw_H} (hd : decode u.2.1 pc = .ok (.lastore, 1)) (hg : jw_sl h o x v = some h1) (k : jw_E d u hi (pc + 1) L S h1 r hf) : jw_E d u hi pc L (.long v :: .int x :: va_rf o :: S) h r hf := by
  obtain ⟨q, hq, hv⟩ := Option.map_eq_some_iff.mp hg
  obtain ⟨a, rfl, ht, hin, rfl⟩ := jw_ix_spec hq
  have hv2 : jw_setL h a x.toNatClampNeg (v) = h1 := hv
  subst hv2
  refine ⟨k.1, k.2.1, k.2.2.1, ?_⟩
  intro p l e R s m args below meth c0 b Ls xs D A Q σ0 hC hT hX κ tys σ Hm locs cells slots ls M hs
  have ha : a < jw_n h := hs.tl.tl.hd a rfl
  obtain ⟨t0, ht0⟩ := jw_tys M.1 ha (by omega)
  rw [ht] at ht0
  refine va_last hC.1 hC.2.1 M.1.1 M.1.2.1 M.1.2.2.1 M.2.1 a t0 (cA := κ a) (n := (jw_t h a).2) (f := jw_l h a) (by rw [jw_ws_get ha, jw_cell_a (by omega), jw_ac_l ht]) ht0 hin hd fun H1 locs1 hP hD hS => ?_
  refine k.2.2.2 p l e R s m args below meth c0 b Ls xs D A Q σ0 hC hT hX κ tys σ H1 locs1 cells slots ls ⟨M.1.setc ha rfl rfl hP hD ?_ ?_ (fun q => by omega) (fun j i q => M.1.2.2.2.2.2.2 a j i ha q), hS, M.2.2.1, M.2.2.2.1, M.2.2.2.2⟩ hs.tl.tl.tl
  · rw [jw_cell_a (h := jw_setL h a x.toNatClampNeg (v)) (by show 20 ≤ (jw_t h a).1; omega)]
    have e2 : jw_ac σ (jw_setL h a x.toNatClampNeg (v)) a = .inr (.inl (vp_updL (jw_l h a) x.toNatClampNeg (v))) := by
      have e3 : jw_l (jw_setL h a x.toNatClampNeg (v)) a = vp_updL (jw_l h a) x.toNatClampNeg (v) := by
        funext j
        simp [jw_i_I, jw_l_L, jw_u, vp_updL]
      rw [← e3]
      exact jw_ac_l (h := jw_setL h a x.toNatClampNeg (v)) ht
    rw [e2]
    rfl
  · intro j hj
    exact ⟨rfl, jw_u_ne hj, rfl⟩

theorem jw_alen {o : Option Nat} {v : Int32} (hd : decode u.2.1 pc = .ok (.arraylength, 1)) (hg : jw_ln h o = some v) (k : jw_E d u hi (pc + 1) L (.int v :: S) h r hf) : jw_E d u hi pc L (va_rf o :: S) h r hf := by
  cases o with
  | none => exact absurd hg (by simp [jw_ln])
  | some a =>
    by_cases ht : 20 ≤ (jw_t h a).1
    · have hv : Int32.ofNat (jw_t h a).2 = v := by simp only [jw_ln, if_pos ht] at hg; exact Option.some.inj hg
      refine ⟨k.1, k.2.1, k.2.2.1, ?_⟩
      intro p l e R s m args below meth c0 b Ls xs D A Q σ0 hC hT hX κ tys σ Hm locs cells slots ls M hs
      have ha : a < jw_n h := hs.hd a rfl
      have kk := k.2.2.2 p l e R s m args below meth c0 b Ls xs D A Q σ0 hC hT hX κ tys σ Hm locs cells slots ls M (jw_okS.cons jw_ok_int hs.tl)
      obtain ⟨t0, ht0⟩ := jw_tys M.1 ha ht
      exact va_alen hC.1 hC.2.1 M.1.1 M.1.2.1 a t0 (cA := κ a) (x := ((jw_t h a).2, jw_ac σ h a)) (by rw [jw_ws_get ha, jw_cell_a ht]) ht0 hv hd kk
    · exact absurd hg (by simp only [jw_ln, if_neg ht]; exact fun z => nomatch z)

end JWH
