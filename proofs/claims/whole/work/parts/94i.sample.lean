/-! the reference's calls: sample -/
theorem pzLot_b {z : Int} : 0 ≤ pzLot z ∧ pzLot z ≤ 65535 := by unfold pzLot; omega
theorem pxIns_end {ls ms : pxLs} : pxIns ls ((ls.length : Int) + 1) ms = ls ++ ms := by
  unfold pxIns
  rw [show ((ls.length : Int) + 1 - 1).toNat = ls.length by omega, List.take_length, List.drop_length, List.append_nil]
theorem pzSr_b : ∀ (m : Nat) (z : Int) (w : List Int), 0 ≤ z → z ≤ 65535 → (∀ c ∈ w, pxCh c) → (0 ≤ (pzSr m z w).1 ∧ (pzSr m z w).1 ≤ 65535) ∧ (∀ c ∈ (pzSr m z w).2, pxCh c) ∧ (pzSr m z w).2.length = w.length + m
  | 0, z, w, z0, z1, ok => ⟨⟨z0, z1⟩, ok, rfl⟩
  | m + 1, z, w, z0, z1, ok => by
    have lb := pzLot_b (z := z)
    have ih := pzSr_b m (pzLot z) (w ++ [if pzLot z / 16 % 6 = 5 then 32 else 97 + pzLot z / 16 % 6]) lb.1 lb.2 (fun c hc => by
      rcases List.mem_append.mp hc with y | y
      · exact ok c y
      · rw [List.mem_singleton.mp y]
        by_cases d : pzLot z / 16 % 6 = 5
        · rw [if_pos d]; exact Or.inr (Or.inr rfl)
        · rw [if_neg d]; exact Or.inl (by omega))
    rw [List.length_append, List.length_singleton] at ih
    show (0 ≤ (pzSr m (pzLot z) (w ++ [if pzLot z / 16 % 6 = 5 then 32 else 97 + pzLot z / 16 % 6])).1 ∧ _) ∧ _
    exact ⟨ih.1, ih.2.1, by
      have := ih.2.2
      show (pzSr m (pzLot z) (w ++ [if pzLot z / 16 % 6 = 5 then 32 else 97 + pzLot z / 16 % 6])).2.length = _
      omega⟩
/-- what the sample's rows change -/
def pyQsi : Nat → Nat → Prop := fun k f => pyQm k f ∨ (k = 587 ∧ f = 77)
def pyQsm : Nat → Nat → Prop := fun k f => (k = 592 ∧ f < 1271) ∨ (k = 592 ∧ 13299 ≤ f ∧ f < 13330) ∨ k = 593 ∨ k = 598 ∨ (k = 587 ∧ (f = 12 ∨ f = 17 ∨ f = 20 ∨ f = 77))
section
variable {h : jw_H} {α : pzA} {n : Int}
theorem n_lot {z d : Int} (H : pyS h) (e : pxM h 587 77 = z) (z0 : 0 ≤ z) (z1 : z ≤ 65535) (d0 : 0 < d) (d1 : d ≤ 100) : f_X12_lot h 587 (pxJ d) = some (pxJ (pzLot z / 16 % d), jw_setI h 587 77 (pxJ (pzLot z))) := by
  have lb := pzLot_b (z := z)
  have e1 : (((25173 : Int32) * pxJ z) + (13849 : Int32)) = pxJ (25173 * z + 13849) := by
    rw [show (25173 : Int32) = pxJ 25173 from rfl, pxJ_mul]
    exact pxJ_add _ 13849
  have e2 : pxJ (25173 * z + 13849) - pxJ (25173 * z + 13849) / (65536 : Int32) * (65536 : Int32) = pxJ (pzLot z) := by
    rw [show (65536 : Int32) = pxJ 65536 from rfl, pxJ_div (by omega) (by omega) (by omega) (by omega), pxJ_mul, pxJ_sub]
    unfold pzLot
    rw [show 25173 * z + 13849 - (25173 * z + 13849) / 65536 * 65536 = (25173 * z + 13849) % 65536 by omega]
  have e3 : pxJ (pzLot z) / (16 : Int32) = pxJ (pzLot z / 16) := by
    rw [show (16 : Int32) = pxJ 16 from rfl, pxJ_div (by omega) (by omega) (by omega) (by omega)]
  have e4 : pxJ (pzLot z / 16) - pxJ (pzLot z / 16) / pxJ d * pxJ d = pxJ (pzLot z / 16 % d) := by
    rw [pxJ_div (by omega) (by omega) (by omega) (by omega), pxJ_mul, pxJ_sub]
    rw [show pzLot z / 16 - pzLot z / 16 / d * d = pzLot z / 16 % d by rw [Int.emod_def, Int.mul_comm]]
  have nz : jw_nz (pxJ d) = some () := by
    unfold jw_nz
    rw [if_neg]
    intro y
    have := (pxJ_eq (a := d) (b := 0) (by omega) (by omega) (by omega) (by omega)).mp y
    omega
  have H1 : pyS (jw_setI h 587 77 (pxJ (pzLot z))) := H
  unfold f_X12_lot
  rw [pyN_gI H, px_bs, e, e1, e2, pyN_pI H, px_bs, pyN_gI H1, px_bs, pxM_eq (by omega) (by omega), nz, px_bs, e3, e4]
theorem n_smp_b109 {k87 : jw_H → Nat → Int32 → Int32 → Option (Int32 × jw_H)} {Q : Int32 → jw_H → Prop} {x2 x4 : Int32} {len : Int} (l1 : len ≤ 1000) {h0 : jw_H} (H0 : pyS h0) :
    ∀ (m N : Nat) (h : jw_H) (y z : Int) (w : List Int), y + m = len → 0 ≤ y → m < N → pyV pyQsi h0 h → pyMd h w → (w.length : Int) + m ≤ 30 → pxM h 587 77 = z → 0 ≤ z → z ≤ 65535 →
    (∀ h1, pyV pyQsi h0 h1 → pyMd h1 (pzSr m z w).2 → pxM h1 587 77 = (pzSr m z w).1 → pxW (jw_b2 (f_X12_lays h1 587 (429 : Int32)) fun _ h3 => (jw_gI h3 12 (some 587) 12).bind fun v5 => (jw_rc h3 12 (some 587)).bind fun a6 => jw_b2 (f_X12_bring h3 a6 (429 : Int32) v5) fun _ h7 => k87 h7 587 x2 (x4 + (1 : Int32))) Q) →
    pxW (f_X12_sample_b109 k87 N h 587 x2 x4 (pxJ len) (pxJ y)) Q := by
  intro m
  induction m with
  | zero =>
    intro N h y z w hy y0 hN V M lw e z0 z1 next
    obtain ⟨N, rfl, -⟩ := px_fu hN
    have H := V.s H0
    rw [u_X12_sample_b109]
    unfold g_X12_sample_b109
    rw [if_pos (show pxJ len ≤ pxJ y from (pxJ_le (by omega) (by omega) (by omega) (by omega)).mpr (by omega)), pyN_rc H, px_bs]
    exact next h V M e
  | succ m ih =>
    intro N h y z w hy y0 hN V M lw e z0 z1 next
    obtain ⟨N, rfl, hN⟩ := px_fu hN
    have H := V.s H0
    have lb := pzLot_b (z := z)
    rw [u_X12_sample_b109]
    unfold g_X12_sample_b109
    rw [if_neg (show ¬ (pxJ len ≤ pxJ y) from fun q => by
      have := (pxJ_le (a := len) (b := y) (by omega) (by omega) (by omega) (by omega)).mp q
      omega), pyN_rc H, px_bs, show f_X12_lot h 587 (6 : Int32) = _ from n_lot (d := 6) H e z0 z1 (by omega) (by omega), px_b2]
    have V1 : pyV (fun k f => k = 587 ∧ f = 77) h (jw_setI h 587 77 (pxJ (pzLot z))) := pyV.rfl.set ⟨rfl, rfl⟩
    have e1 : pxM (jw_setI h 587 77 (pxJ (pzLot z))) 587 77 = pzLot z := pxM_eq (by omega) (by omega)
    generalize jw_setI h 587 77 (pxJ (pzLot z)) = h1 at *
    have H1 := V1.s H
    have M1 := M.keep V1 (by omega) (fun f _ => by omega)
    have go : ∀ c : Int, c = (if pzLot z / 16 % 6 = 5 then 32 else 97 + pzLot z / 16 % 6) → 0 ≤ c → c ≤ 200 → pxW (g_X12_sample_b141 (f_X12_sample_b109 k87 N) h1 587 x2 x4 (pxJ len) (pxJ y) 587 (pxJ c)) Q := by
      intro c ec c0 c1
      unfold g_X12_sample_b141
      rw [pyN_rc H1, px_bs]
      refine pxW_b2 (n_makes H1 M1 (c := c) (by omega) (by omega) (by omega)) fun _ h2 q => ?_
      obtain ⟨V2, M2⟩ := q
      rw [show pxJ y + (1 : Int32) = pxJ (y + 1) from pxJ_add y 1]
      refine ih N h2 (y + 1) (pzLot z) (w ++ [c]) (by omega) (by omega) (by omega) ((V.trans (V1.mono (fun k f q => Or.inr q))).trans (V2.mono (fun k f q => Or.inl q))) M2 (by rw [List.length_append, List.length_singleton]; omega) (by rw [V2.m (by unfold pyQm; omega)]; exact e1) lb.1 lb.2 (fun h3 V3 M3 e3 => ?_)
      rw [ec] at M3 e3
      exact next h3 V3 M3 e3
    by_cases d : pzLot z / 16 % 6 = 5
    · rw [if_pos (show pxJ (pzLot z / 16 % 6) = (5 : Int32) by rw [d]; rfl)]
      exact go 32 (by rw [if_pos d]) (by omega) (by omega)
    · rw [if_neg (show ¬ (pxJ (pzLot z / 16 % 6) = (5 : Int32)) from py32 (a := pzLot z / 16 % 6) (b := 5) d (by omega) (by omega) (by omega) (by omega)), show (97 : Int32) + pxJ (pzLot z / 16 % 6) = pxJ (97 + pzLot z / 16 % 6) from pxJ_add 97 _]
      exact go _ (by rw [if_neg d]) (by omega) (by omega)
theorem n_smp_b87 {Q : Int32 → jw_H → Prop} {nn : Int} (n1 : nn ≤ 1000) {h0 : jw_H} (H0 : pyS h0) :
    ∀ (m N : Nat) (h : jw_H) (x z nx : Int) (ls : pxLs), x + m = nn → 0 ≤ x → m < N → pyV pyQsm h0 h → pyL h ls → (ls.length : Int) + m ≤ 40 → pxM h 587 17 = nx → 0 ≤ nx → nx + m ≤ 2000000000 → pxM h 587 77 = z → 0 ≤ z → z ≤ 65535 →
    (∀ h1, pyV pyQsm h0 h1 → pyL h1 (pzSs m z ls nx).1 → pxM h1 587 17 = (pzSs m z ls nx).2 → (pzSs m z ls nx).1.length = ls.length + m → pxW ((jw_pI h1 12 (some 587) 16 (pxJ ((pzSs m z ls nx).1.length : Int))).bind fun h3 => (jw_rc h3 12 (some 587)).bind fun a4 => jw_b2 (f_X12_noteDeed h3 a4) fun _ h5 => (jw_gI h5 12 (some 587) 12).bind fun v7 => some (v7, h5)) Q) →
    pxW (f_X12_sample_b87 N h 587 (pxJ nn) (pxJ x)) Q := by
  intro m
  induction m with
  | zero =>
    intro N h x z nx ls hx x0 hN V L l40 e17 nx0 nx1 e77 z0 z1 next
    obtain ⟨N, rfl, -⟩ := px_fu hN
    have H := V.s H0
    rw [u_X12_sample_b87]
    unfold g_X12_sample_b87
    rw [if_pos (show pxJ nn ≤ pxJ x from (pxJ_le (by omega) (by omega) (by omega) (by omega)).mpr (by omega)), pyN_gI H, px_bs, L.1]
    exact next h V L e17 rfl
  | succ m ih =>
    intro N h x z nx ls hx x0 hN V L l40 e17 nx0 nx1 e77 z0 z1 next
    obtain ⟨N, rfl, hN⟩ := px_fu hN
    have H := V.s H0
    have lb := pzLot_b (z := z)
    rw [u_X12_sample_b87]
    unfold g_X12_sample_b87
    rw [if_neg (show ¬ (pxJ nn ≤ pxJ x) from fun q => by
      have := (pxJ_le (a := nn) (b := x) (by omega) (by omega) (by omega) (by omega)).mp q
      omega), pyN_rc H, px_bs, show f_X12_lot h 587 (9 : Int32) = _ from n_lot (d := 9) H e77 z0 z1 (by omega) (by omega), px_b2]
    have V1 : pyV (fun k f => k = 587 ∧ f = 77) h (jw_setI h 587 77 (pxJ (pzLot z))) := pyV.rfl.set ⟨rfl, rfl⟩
    have e1 : pxM (jw_setI h 587 77 (pxJ (pzLot z))) 587 77 = pzLot z := pxM_eq (by omega) (by omega)
    generalize jw_setI h 587 77 (pxJ (pzLot z)) = h1 at *
    have H1 := V1.s H
    rw [show (0 : Int32) = pxJ 0 from rfl, pyN_pI H1, px_bs]
    have V2 : pyV (fun k f => k = 587 ∧ f = 20) h1 (jw_setI h1 587 20 (pxJ 0)) := pyV.rfl.set ⟨rfl, rfl⟩
    have M2 : pyMd (jw_setI h1 587 20 (pxJ 0)) [] := pyMd_0
    have e2 : pxM (jw_setI h1 587 20 (pxJ 0)) 587 77 = pzLot z := by rw [V2.m (by omega)]; exact e1
    generalize jw_setI h1 587 20 (pxJ 0) = h2 at *
    have H2 := V2.s H1
    have sb := pzSr_b (pzLot z / 16 % 9).toNat (pzLot z) [] lb.1 lb.2 (fun c hc => by cases hc)
    have sl := sb.2.2
    rw [List.length_nil] at sl
    refine n_smp_b109 (len := pzLot z / 16 % 9) (by omega) H2 (pzLot z / 16 % 9).toNat jw_FU h2 0 (pzLot z) [] (by omega) (by omega) (by unfold jw_FU; omega) pyV.rfl M2 (by rw [List.length_nil]; omega) e2 lb.1 lb.2 (fun h3 V3 M3 e3 => ?_)
    have H3 := V3.s H2
    rw [show (429 : Int32) = pxJ 429 from rfl]
    refine pxW_b2 (n_lays H3 M3 (i := 429) (by omega) (by omega)) fun v h4 q => ?_
    obtain ⟨-, V4, R4⟩ := q
    have R4 := R4 (by omega)
    have H4 := V4.s H3
    have V04 : pyV pyQsm h h4 := (((V1.mono (fun k f q => by unfold pyQsm; omega)).trans (V2.mono (fun k f q => by unfold pyQsm; omega))).trans (V3.mono (fun k f q => by unfold pyQsi pyQm at q; unfold pyQsm; omega))).trans (V4.mono (fun k f q => by unfold pyQR at q; unfold pyQsm; omega))
    have V04' : pyV (fun k f => (k = 592 ∧ 13299 ≤ f) ∨ k = 598 ∨ (k = 587 ∧ (f = 20 ∨ f = 77))) h h4 := (((V1.mono (fun k f q => by omega)).trans (V2.mono (fun k f q => by omega))).trans (V3.mono (fun k f q => by unfold pyQsi pyQm at q; omega))).trans (V4.mono (fun k f q => by unfold pyQR at q; omega))
    have L4 : pyL h4 ls := L.keep V04' (fun f _ => by omega) (fun f _ => by omega) (by omega)
    have f77 : pxM h4 587 77 = (pzSr (pzLot z / 16 % 9).toNat (pzLot z) []).1 := by rw [V4.m (by unfold pyQR; omega)]; exact e3
    rw [pyN_gI H4, px_bs, L4.1, pyN_rc H4, px_bs]
    refine pxW_b2 (n_bring H4 L4 R4 ⟨by omega, sb.2.1⟩ (by omega) (by omega) (by omega) (Int.le_refl _) (by omega) (by rw [V04'.m (by omega)]; exact e17) nx0 (by omega)) fun _ h5 q => ?_
    obtain ⟨V5, L5, g17⟩ := q
    rw [pxIns_end] at L5
    rw [show pxJ x + (1 : Int32) = pxJ (x + 1) from pxJ_add x 1]
    have el : (ls ++ [(nx, (pzSr (pzLot z / 16 % 9).toNat (pzLot z) []).2)]).length = ls.length + 1 := by rw [List.length_append, List.length_singleton]
    refine ih N h5 (x + 1) (pzSr (pzLot z / 16 % 9).toNat (pzLot z) []).1 (nx + 1) (ls ++ [(nx, (pzSr (pzLot z / 16 % 9).toNat (pzLot z) []).2)]) (by omega) (by omega) (by omega) ((V.trans V04).trans (V5.mono (fun k f q => by unfold pyQt at q; unfold pyQsm; omega))) L5 (by rw [el]; omega) g17 (by omega) (by omega) (by rw [V5.m (by unfold pyQt; omega)]; exact f77) sb.1.1 sb.1.2 (fun h6 V6 L6 g6 l6 => next h6 V6 L6 g6 ?_)
    have l6' : (pzSs (m + 1) z ls nx).1.length = (ls ++ [(nx, (pzSr (pzLot z / 16 % 9).toNat (pzLot z) []).2)]).length + m := l6
    rw [l6', el]
    omega
theorem n_sample {z k : Int} (A : pyA h α) (I : pxInv α.2.2.1) (c1 : α.2.2.2.2.2.1 ≤ 1000000000) (nb : α.2.2.1.2.2.2 ≤ 1000000000) (z0 : -2147483648 ≤ z) (z1 : z ≤ 2147483647) (k0 : -2147483648 ≤ k) (k1 : k ≤ 2147483647) (c0 : 0 ≤ α.2.2.2.2.2.1) : pxW (f_X12_sample h 587 (pxJ z) (pxJ k)) fun v h' => pyZ h (pz_sample z k α) v h' := by
  have H := A.1
  have L := A.2.2.2.1.1
  have l40 := L.2.1
  have no : ¬ (0 ≤ z ∧ z ≤ 65535 ∧ 1 ≤ k ∧ k ≤ 20) → pxW (g_X12_sample_b26 h 587 (pxJ z) (pxJ k)) fun v h' => pyZ h (pz_sample z k α) v h' := by
    intro q
    unfold g_X12_sample_b26 g_X12_sample_b27 g_X12_sample_b53 pz_sample
    rw [if_pos rfl, if_pos q, pyThr (w := 1) (t := 1) H rfl (by omega) (by omega), if_neg (show ¬ ((1 : Int32) ≤ 0) by decide)]
    exact pxW_some.mpr (pyZ_1 A)
  unfold f_X12_sample
  by_cases a1 : z < 0
  · rw [if_pos (show pxJ z < (0 : Int32) from (pxJ_lt (a := z) (b := 0) z0 z1 (by omega) (by omega)).mpr a1)]
    exact no (by omega)
  rw [if_neg (show ¬ (pxJ z < (0 : Int32)) from fun q => a1 ((pxJ_lt (a := z) (b := 0) z0 z1 (by omega) (by omega)).mp q))]
  by_cases a2 : 65535 < z
  · rw [if_pos (show (65535 : Int32) < pxJ z from (pxJ_lt (a := 65535) (b := z) (by omega) (by omega) z0 z1).mpr a2)]
    exact no (by omega)
  rw [if_neg (show ¬ ((65535 : Int32) < pxJ z) from fun q => a2 ((pxJ_lt (a := 65535) (b := z) (by omega) (by omega) z0 z1).mp q))]
  by_cases a3 : k < 1
  · rw [if_pos (show pxJ k < (1 : Int32) from (pxJ_lt (a := k) (b := 1) k0 k1 (by omega) (by omega)).mpr a3)]
    exact no (by omega)
  rw [if_neg (show ¬ (pxJ k < (1 : Int32)) from fun q => a3 ((pxJ_lt (a := k) (b := 1) k0 k1 (by omega) (by omega)).mp q))]
  by_cases a4 : 20 < k
  · rw [if_pos (show (20 : Int32) < pxJ k from (pxJ_lt (a := 20) (b := k) (by omega) (by omega) k0 k1).mpr a4)]
    exact no (by omega)
  rw [if_neg (show ¬ ((20 : Int32) < pxJ k) from fun q => a4 ((pxJ_lt (a := 20) (b := k) (by omega) (by omega) k0 k1).mp q))]
  have good : ¬ ¬ (0 ≤ z ∧ z ≤ 65535 ∧ 1 ≤ k ∧ k ≤ 20) := fun q => q ⟨by omega, by omega, by omega, by omega⟩
  unfold g_X12_sample_b27 g_X12_sample_b53 pz_sample
  rw [if_neg (show ¬ ((1 : Int32) = 0) by decide), if_neg good, pyN_gI H, px_bs, L.1, pxJ_add]
  by_cases b : (α.2.2.1.1.length : Int) + k ≤ 40
  · rw [if_pos (show pxJ ((α.2.2.1.1.length : Int) + k) ≤ (40 : Int32) from (pxJ_le (a := (α.2.2.1.1.length : Int) + k) (b := 40) (by omega) (by omega) (by omega) (by omega)).mpr b), if_neg (show ¬ (40 < (α.2.2.1.1.length : Int) + k) by omega), pyThr (w := 0) (t := 0) H rfl (by omega) (by omega), if_pos (show (0 : Int32) ≤ 0 from Int32.le_refl _)]
    obtain ⟨zz1, zz2, A1⟩ := A.n00
    generalize jw_setI h 587 0 (0 : Int32) = h1 at *
    refine pyW_tr zz1 ?_
    obtain ⟨H1, Tp, Sc, X, Y, D, e63, e18⟩ := A1
    rw [pyN_gI H1, px_bs, e63, show pxJ α.2.2.2.2.2.1 + (1 : Int32) = pxJ (α.2.2.2.2.2.1 + 1) from pxJ_add _ 1, pyN_pI H1, px_bs]
    have V2 : pyV (fun k f => k = 587 ∧ f = 63) h1 (jw_setI h1 587 63 (pxJ (α.2.2.2.2.2.1 + 1))) := pyV.rfl.set ⟨rfl, rfl⟩
    have f63 : pxM (jw_setI h1 587 63 (pxJ (α.2.2.2.2.2.1 + 1))) 587 63 = α.2.2.2.2.2.1 + 1 := pxM_eq (by omega) (by omega)
    generalize jw_setI h1 587 63 (pxJ (α.2.2.2.2.2.1 + 1)) = h2 at *
    have H2 := V2.s H1
    rw [pyN_rc H2, px_bs]
    refine pxW_b2 (n_save H2) fun _ h3 q => ?_
    obtain ⟨V3, Z3⟩ := q
    have H3 := V3.s H2
    rw [pyN_pI H3, px_bs, show (0 : Int32) = pxJ 0 from rfl]
    have V4 : pyV (fun k f => k = 587 ∧ f = 77) h3 (jw_setI h3 587 77 (pxJ z)) := pyV.rfl.set ⟨rfl, rfl⟩
    have e77 : pxM (jw_setI h3 587 77 (pxJ z)) 587 77 = z := pxM_eq (by omega) (by omega)
    generalize jw_setI h3 587 77 (pxJ z) = h4 at *
    have H4 := V4.s H3
    have X2 : pyX h2 α.2.2.1 := X.keep V2 (fun k f q => by omega)
    have X4 : pyX h4 α.2.2.1 := (X2.keep V3 (fun k f q => by unfold pyQsv; omega)).keep V4 (fun k f q => by omega)
    have kn : k = k.toNat := by omega
    rw [kn]
    refine n_smp_b87 (nn := (k.toNat : Int)) (by omega) H4 k.toNat jw_FU h4 0 z α.2.2.1.2.2.2 α.2.2.1.1 (by omega) (by omega) (by unfold jw_FU; omega) pyV.rfl X4.1 (by omega) X4.2.2.2 I.2.2.2.2.2.1 (by omega) e77 (by omega) (by omega) (fun h5 V5 L5 g17 l5 => ?_)
    have H5 := V5.s H4
    rw [pyN_pI H5, px_bs]
    have V6 : pyV (fun k f => k = 587 ∧ f = 16) h5 (jw_setI h5 587 16 (pxJ ((pzSs k.toNat z α.2.2.1.1 α.2.2.1.2.2.2).1.length : Int))) := pyV.rfl.set ⟨rfl, rfl⟩
    have g16 : pxM (jw_setI h5 587 16 (pxJ ((pzSs k.toNat z α.2.2.1.1 α.2.2.1.2.2.2).1.length : Int))) 587 16 = ((pzSs k.toNat z α.2.2.1.1 α.2.2.1.2.2.2).1.length : Int) := pxM_eq (by omega) (by omega)
    generalize jw_setI h5 587 16 (pxJ ((pzSs k.toNat z α.2.2.1.1 α.2.2.1.2.2.2).1.length : Int)) = h6 at *
    have H6 := V6.s H5
    have V24 : pyV (fun k f => pyQsv k f ∨ (k = 587 ∧ f = 77)) h2 h4 := (V3.mono (fun k f q => Or.inl q)).trans (V4.mono (fun k f q => Or.inr q))
    have V46 : pyV (fun k f => pyQsm k f ∨ (k = 587 ∧ f = 16)) h4 h6 := (V5.mono (fun k f q => Or.inl q)).trans (V6.mono (fun k f q => Or.inr q))
    have Z6 : pySv h2 h6 := (Z3.keep V4 (fun k f q => by unfold pyQsv at q; omega)).keep V46 (fun k f q => by unfold pyQsv at q; unfold pyQsm; omega)
    have D6 : pyDI h6 α.2.2.2.2.1 := ((D.keep V2 (fun k f q => by unfold pyQnd at q; omega)).keep V24 (fun k f q => by unfold pyQnd at q; unfold pyQsv; omega)).keep V46 (fun k f q => by unfold pyQnd at q; unfold pyQsm; omega)
    rw [pyN_rc H6, px_bs]
    refine pxW_b2 (n_noteDeed H6 X2.1 X2.2.1 X2.2.2.1 Z6 D6) fun _ h7 q => ?_
    obtain ⟨V7, D7⟩ := q
    have H7 := V7.s H6
    have V26 : pyV (fun k f => pyQsv k f ∨ pyQsm k f ∨ (k = 587 ∧ (f = 16 ∨ f = 77))) h2 h6 := (V24.mono (fun k f q => by rcases q with q | q <;> first | exact Or.inl q | exact Or.inr (Or.inr (by omega)))).trans (V46.mono (fun k f q => by rcases q with q | q <;> first | exact Or.inr (Or.inl q) | exact Or.inr (Or.inr (by omega))))
    have h63 : pxM h6 587 63 = α.2.2.2.2.2.1 + 1 := by rw [V26.m (by unfold pyQsv pyQsm; omega)]; exact f63
    rw [h63] at D7
    have L7 := (L5.keep V6 (fun f _ => by omega) (fun f _ => by omega) (by omega)).keep V7 (fun f _ => by unfold pyQnd; omega) (fun f _ => by unfold pyQnd; omega) (by unfold pyQnd; omega)
    have V17 : pyV (fun k f => pyQsv k f ∨ pyQsm k f ∨ pyQnd k f ∨ (k = 587 ∧ (f = 16 ∨ f = 63 ∨ f = 77))) h1 h7 := ((V2.mono (fun k f q => Or.inr (Or.inr (Or.inr (by omega))))).trans (V26.mono (fun k f q => by rcases q with q | q | q <;> first | exact Or.inl q | exact Or.inr (Or.inl q) | exact Or.inr (Or.inr (Or.inr (by omega)))))).trans (V7.mono (fun k f q => Or.inr (Or.inr (Or.inl q))))
    have el : ((pzSs k.toNat z α.2.2.1.1 α.2.2.1.2.2.2).1.length : Int) = (α.2.2.1.1.length : Int) + (k.toNat : Int) := by omega
    rw [pyN_gI H7, px_bs, L7.1, el]
    refine pxW_some.mpr ⟨V17.mono (fun k f q => by unfold pyQsv pyQsm pyQnd at q; unfold pyQZ; omega), by rw [V17.m (by unfold pyQsv pyQsm pyQnd; omega)]; exact zz2, fun _ => rfl, H7, Tp.keep V17 (by unfold pyQsv pyQsm pyQnd; omega) (fun f => by unfold pyQsv pyQsm pyQnd; omega), Sc.keep V17 (fun k f q => by unfold pyQsv pyQsm pyQnd; omega), ⟨L7, X.2.1.keep V17 (fun f _ => by unfold pyQsv pyQsm pyQnd; omega), ?_, ?_⟩, Y.keep V17 (fun k f q => by unfold pyQsv pyQsm pyQnd; omega), D7, ?_, ?_⟩
    · show pxM h7 587 16 = (α.2.2.1.1.length : Int) + (k.toNat : Int)
      rw [V7.m (by unfold pyQnd; omega), g16, el]
    · show pxM h7 587 17 = (pzSs k.toNat z α.2.2.1.1 α.2.2.1.2.2.2).2
      rw [V7.m (by unfold pyQnd; omega), V6.m (by omega)]
      exact g17
    · show pxM h7 587 63 = α.2.2.2.2.2.1 + 1
      rw [V7.m (by unfold pyQnd; omega)]
      exact h63
    · show pxM h7 587 18 = α.2.2.2.2.2.2
      rw [V17.m (by unfold pyQsv pyQsm pyQnd; omega)]
      exact e18
  · rw [if_neg (show ¬ (pxJ ((α.2.2.1.1.length : Int) + k) ≤ (40 : Int32)) from fun q => b ((pxJ_le (a := (α.2.2.1.1.length : Int) + k) (b := 40) (by omega) (by omega) (by omega) (by omega)).mp q)), if_pos (show 40 < (α.2.2.1.1.length : Int) + k by omega), pyThr (w := 2) (t := 2) H rfl (by omega) (by omega), if_neg (show ¬ ((2 : Int32) ≤ 0) by decide)]
    exact pxW_some.mpr (pyZ_2 A)
end
