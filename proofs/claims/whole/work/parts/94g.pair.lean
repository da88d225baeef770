/-! the reference's calls: differ, pairOf -/
/-- a line's pair as it is noted -/
def pyPc (h : jw_H) (pr : Int → Int) (x : Int) : Prop := (pr x = -1 ∧ pxM h 618 (x - 1).toNat = 0) ∨ (1 ≤ pr x ∧ pr x ≤ 41 ∧ pxM h 618 (x - 1).toNat = pr x)
def pyQpc : Nat → Nat → Prop := fun k _ => k = 617 ∨ k = 618
section
variable {h : jw_H} {α : pzA} {n : Int}
theorem n_pair_b44 {h0 : jw_H} {k : Int} (H0 : pyS h0) (L0 : pyL h0 α.2.2.1.1) (R0 : pyRs h0 (123 + 41 * k) (α.2.2.2.1.2.2 k)) (ok : pxOk (α.2.2.2.1.2.2 k)) (l : (α.2.2.2.1.2.2 k).length ≤ 40) (k0 : 0 ≤ k) (k4 : k < 4)
    (C0 : ∀ a b : Int, 0 ≤ a → a ≤ α.2.2.1.1.length → 0 ≤ b → b ≤ (α.2.2.2.1.2.2 k).length → pyCe h0 (pxRs α.2.2.1.1) (α.2.2.2.1.2.2 k) a b) :
    ∀ (m N : Nat) (h : jw_H) (a b c : Int) (pr : Int → Int), ((α.2.2.1.1.length : Int) - a) + (((α.2.2.2.1.2.2 k).length : Int) - b) ≤ m → m < N → 0 ≤ a → a ≤ α.2.2.1.1.length → 0 ≤ b → b ≤ (α.2.2.2.1.2.2 k).length → pyV (fun k _ => k = 618) h0 h → (∀ x : Int, 1 ≤ x → x ≤ 40 → pyPc h pr x) →
    pxW (f_X12_pair_b44 N h 587 (pxJ k) (pxJ ((α.2.2.2.1.2.2 k).length : Int)) (pxJ a) (pxJ b) (pxJ c)) fun v h' => pyV (fun k _ => k = 618) h0 h' ∧ v = pxJ (pzPr (pxRs α.2.2.1.1) (α.2.2.2.1.2.2 k) m (a + 1) (b + 1) c pr).1 ∧ ∀ x : Int, 1 ≤ x → x ≤ 40 → pyPc h' (pzPr (pxRs α.2.2.1.1) (α.2.2.2.1.2.2 k) m (a + 1) (b + 1) c pr).2 x := by
  have l40 := L0.2.1
  have rl : (pxRs α.2.2.1.1).length = α.2.2.1.1.length := pxRs_len _
  intro m
  induction m with
  | zero =>
    intro N h a b c pr hm hN a0 a1 b0 b1 V P
    obtain ⟨N, rfl, -⟩ := px_fu hN
    have H := V.s H0
    have L : pyL h α.2.2.1.1 := L0.keep V (fun f _ => by omega) (fun f _ => by omega) (by omega)
    rw [u_X12_pair_b44]
    unfold g_X12_pair_b44
    rw [pyN_gI H, px_bs, L.1, if_pos (show pxJ (α.2.2.1.1.length : Int) ≤ pxJ a from (pxJ_le (by omega) (by omega) (by omega) (by omega)).mpr (by omega))]
    exact pxW_some.mpr ⟨V, rfl, P⟩
  | succ m ih =>
    intro N h a b c pr hm hN a0 a1 b0 b1 V P
    obtain ⟨N, rfl, hN⟩ := px_fu hN
    have H := V.s H0
    have L : pyL h α.2.2.1.1 := L0.keep V (fun f _ => by omega) (fun f _ => by omega) (by omega)
    have R : pyRs h (123 + 41 * k) (α.2.2.2.1.2.2 k) := R0.keep V (by omega) ok (fun f _ _ => by omega)
    have eP : pzPr (pxRs α.2.2.1.1) (α.2.2.2.1.2.2 k) (m + 1) (a + 1) (b + 1) c pr = if ((pxRs α.2.2.1.1).length : Int) < a + 1 ∨ ((α.2.2.2.1.2.2 k).length : Int) < b + 1 then (c, pr) else if pxRw (pxRs α.2.2.1.1) (a + 1) = pxRw (α.2.2.2.1.2.2 k) (b + 1) then pzPr (pxRs α.2.2.1.1) (α.2.2.2.1.2.2 k) m (a + 1 + 1) (b + 1 + 1) (c + 1) (fun j => if j = a + 1 then b + 1 else pr j) else if pzCo (pxRs α.2.2.1.1) (α.2.2.2.1.2.2 k) (a + 1 + 1) (b + 1) < pzCo (pxRs α.2.2.1.1) (α.2.2.2.1.2.2 k) (a + 1) (b + 1 + 1) then pzPr (pxRs α.2.2.1.1) (α.2.2.2.1.2.2 k) m (a + 1) (b + 1 + 1) c pr else pzPr (pxRs α.2.2.1.1) (α.2.2.2.1.2.2 k) m (a + 1 + 1) (b + 1) c pr := rfl
    rw [eP, u_X12_pair_b44]
    unfold g_X12_pair_b44
    rw [pyN_gI H, px_bs, L.1]
    by_cases c1 : (α.2.2.1.1.length : Int) ≤ a
    · rw [if_pos (show pxJ (α.2.2.1.1.length : Int) ≤ pxJ a from (pxJ_le (by omega) (by omega) (by omega) (by omega)).mpr c1), if_pos (show ((pxRs α.2.2.1.1).length : Int) < a + 1 ∨ ((α.2.2.2.1.2.2 k).length : Int) < b + 1 by omega)]
      exact pxW_some.mpr ⟨V, rfl, P⟩
    rw [if_neg (show ¬ (pxJ (α.2.2.1.1.length : Int) ≤ pxJ a) from fun z => c1 ((pxJ_le (by omega) (by omega) (by omega) (by omega)).mp z))]
    by_cases c2 : ((α.2.2.2.1.2.2 k).length : Int) ≤ b
    · rw [if_pos (show pxJ ((α.2.2.2.1.2.2 k).length : Int) ≤ pxJ b from (pxJ_le (by omega) (by omega) (by omega) (by omega)).mpr c2), if_pos (show ((pxRs α.2.2.1.1).length : Int) < a + 1 ∨ ((α.2.2.2.1.2.2 k).length : Int) < b + 1 by omega)]
      exact pxW_some.mpr ⟨V, rfl, P⟩
    rw [if_neg (show ¬ (pxJ ((α.2.2.2.1.2.2 k).length : Int) ≤ pxJ b) from fun z => c2 ((pxJ_le (by omega) (by omega) (by omega) (by omega)).mp z)), if_neg (show ¬ (((pxRs α.2.2.1.1).length : Int) < a + 1 ∨ ((α.2.2.2.1.2.2 k).length : Int) < b + 1) by omega), n_fileRow0, px_b2, pyN_rc H, px_bs, pyCmp H L R ok l k0 k4 a0 (by omega) b0 (by omega), px_b2]
    by_cases d : pxRw (pxRs α.2.2.1.1) (a + 1) = pxRw (α.2.2.2.1.2.2 k) (b + 1)
    · rw [if_pos d, if_pos d, if_neg (show ¬ (pxJ 1 = 0) by decide), pyN_g79 H, px_bs, show pxJ b + (1 : Int32) = pxJ (b + 1) from pxJ_add b 1, pyN_s618 H (by omega) (by omega), px_bs, show pxJ a + (1 : Int32) = pxJ (a + 1) from pxJ_add a 1, show pxJ c + (1 : Int32) = pxJ (c + 1) from pxJ_add c 1]
      refine ih N _ (a + 1) (b + 1) (c + 1) _ (by omega) (by omega) (by omega) (by omega) (by omega) (by omega) (V.set rfl) (fun x x0 x1 => ?_)
      by_cases e : x = a + 1
      · refine Or.inr ⟨?_, ?_, ?_⟩
        · show 1 ≤ (if x = a + 1 then b + 1 else pr x)
          rw [if_pos e]; omega
        · show (if x = a + 1 then b + 1 else pr x) ≤ 41
          rw [if_pos e]; omega
        · show _ = (if x = a + 1 then b + 1 else pr x)
          rw [if_pos e, e, show a + 1 - 1 = a by omega, pxM_eq (by omega) (by omega)]
      · have := P x x0 x1
        unfold pyPc at this ⊢
        rw [pxM_ne (by omega)]
        show ((if x = a + 1 then b + 1 else pr x) = -1 ∧ _) ∨ (1 ≤ (if x = a + 1 then b + 1 else pr x) ∧ (if x = a + 1 then b + 1 else pr x) ≤ 41 ∧ _ = (if x = a + 1 then b + 1 else pr x))
        rw [if_neg e]
        exact this
    · have q1 : pyCe h (pxRs α.2.2.1.1) (α.2.2.2.1.2.2 k) (a + 1) b := by
        unfold pyCe
        rw [V.m (by omega)]
        exact C0 (a + 1) b (by omega) (by omega) (by omega) b1
      have q2 : pyCe h (pxRs α.2.2.1.1) (α.2.2.2.1.2.2 k) a (b + 1) := by
        unfold pyCe
        rw [V.m (by omega)]
        exact C0 a (b + 1) (by omega) (by omega) (by omega) (by omega)
      unfold pyCe at q1 q2
      have b1' := pzCo_b (rs := pxRs α.2.2.1.1) (fs := α.2.2.2.1.2.2 k) (a := a + 1 + 1) (b := b + 1)
      have b2' := pzCo_b (rs := pxRs α.2.2.1.1) (fs := α.2.2.2.1.2.2 k) (a := a + 1) (b := b + 1 + 1)
      rw [if_neg d, if_neg d, if_pos (show pxJ 0 = 0 from rfl), pyN_g78 H, px_bs, show pxJ a + (1 : Int32) = pxJ (a + 1) from pxJ_add a 1, py41, pyN_a617 H (by omega) (by omega), px_bs, q1, px_bs, py41, show pxJ (41 * a + b) + (1 : Int32) = pxJ (41 * a + (b + 1)) by rw [show 41 * a + (b + 1) = 41 * a + b + 1 by omega]; exact pxJ_add _ 1, pyN_a617 H (by omega) (by omega), px_bs, q2]
      by_cases g : pzCo (pxRs α.2.2.1.1) (α.2.2.2.1.2.2 k) (a + 1 + 1) (b + 1) < pzCo (pxRs α.2.2.1.1) (α.2.2.2.1.2.2 k) (a + 1) (b + 1 + 1)
      · rw [if_pos (show pxJ (pzCo (pxRs α.2.2.1.1) (α.2.2.2.1.2.2 k) (a + 1 + 1) (b + 1)) < pxJ (pzCo (pxRs α.2.2.1.1) (α.2.2.2.1.2.2 k) (a + 1) (b + 1 + 1)) from (pxJ_lt (by omega) (by omega) (by omega) (by omega)).mpr g), if_pos g, show pxJ b + (1 : Int32) = pxJ (b + 1) from pxJ_add b 1]
        exact ih N h a (b + 1) c pr (by omega) (by omega) a0 a1 (by omega) (by omega) V P
      · rw [if_neg (show ¬ (pxJ (pzCo (pxRs α.2.2.1.1) (α.2.2.2.1.2.2 k) (a + 1 + 1) (b + 1)) < pxJ (pzCo (pxRs α.2.2.1.1) (α.2.2.2.1.2.2 k) (a + 1) (b + 1 + 1))) from fun z => g ((pxJ_lt (by omega) (by omega) (by omega) (by omega)).mp z)), if_neg g]
        exact ih N h (a + 1) b c pr (by omega) (by omega) (by omega) (by omega) b0 b1 V P
theorem n_pair_b23 {h0 : jw_H} {k : Int} {Q : Int32 → jw_H → Prop} {x2 x3 x4 x5 : Int32} (H0 : pyS h0)
    (next : ∀ h, pyV (fun k _ => k = 618) h0 h → (∀ x : Int, 1 ≤ x → x ≤ 40 → pxM h 618 (x - 1).toNat = 0) → pxW (f_X12_pair_b44 jw_FU h 587 (pxJ k) x2 x3 x4 x5) Q) :
    ∀ (m N : Nat) (h : jw_H) (j : Int), j + m = 40 → 0 ≤ j → m < N → pyV (fun k _ => k = 618) h0 h → (∀ x : Int, 1 ≤ x → x ≤ j → pxM h 618 (x - 1).toNat = 0) →
    pxW (f_X12_pair_b23 N h 587 (pxJ k) x2 x3 x4 x5 (pxJ j)) Q := by
  intro m
  induction m with
  | zero =>
    intro N h j hj j0 hN V e
    obtain ⟨N, rfl, -⟩ := px_fu hN
    rw [u_X12_pair_b23]
    unfold g_X12_pair_b23
    rw [if_pos (show (40 : Int32) ≤ pxJ j from (pxJ_le (a := 40) (b := j) (by omega) (by omega) (by omega) (by omega)).mpr (by omega))]
    exact next h V (fun x x0 x1 => e x x0 (by omega))
  | succ m ih =>
    intro N h j hj j0 hN V e
    obtain ⟨N, rfl, hN⟩ := px_fu hN
    have H := V.s H0
    rw [u_X12_pair_b23]
    unfold g_X12_pair_b23
    rw [if_neg (show ¬ ((40 : Int32) ≤ pxJ j) from fun z => by
      have := (pxJ_le (a := 40) (b := j) (by omega) (by omega) (by omega) (by omega)).mp z
      omega), pyN_g79 H, px_bs, show (0 : Int32) = pxJ 0 from rfl, pyN_s618 H j0 (by omega), px_bs, show pxJ j + (1 : Int32) = pxJ (j + 1) from pxJ_add j 1]
    refine ih N _ (j + 1) (by omega) (by omega) (by omega) (V.set rfl) (fun x x0 x1 => ?_)
    by_cases c : x = j + 1
    · rw [c, show j + 1 - 1 = j by omega, pxM_eq (by omega) (by omega)]
    · rw [pxM_ne (by omega)]; exact e x x0 (by omega)
theorem n_pair {k : Int} (A : pyA h α) (k0 : 0 ≤ k) (k4 : k < 4) :
    pxW (f_X12_pair h 587 (pxJ k)) fun v h' => pyV pyQpc h h' ∧ v = pxJ (pzPairs k α).1 ∧ ∀ x : Int, 1 ≤ x → x ≤ 40 → pyPc h' (pzPairs k α).2 x := by
  have H := A.1
  have S := A.2.2.2.2.1.1.2.2 k k0 k4
  have l40 := A.2.2.2.1.1.2.1
  unfold f_X12_pair
  rw [pyN_rc H, px_bs]
  refine pxW_b2 (n_compareTo A k0 k4) fun _ h2 q => ?_
  obtain ⟨V2, C2⟩ := q
  have A2 : pyA h2 α := A.keep V2 (fun k f z => by unfold pyQA0 at z; omega)
  have H2 := A2.1
  have F2 := A2.2.2.2.2.1.2.2.2 k k0 k4
  have L2 := A2.2.2.2.1.1
  rw [pyN_g11 H2, px_bs, pyN_a597 H2 k0 k4, px_bs, F2.1, show (0 : Int32) = pxJ 0 from rfl]
  refine n_pair_b23 (h0 := h2) H2 (fun h3 V3 e3 => ?_) 40 jw_FU h2 0 (by omega) (by omega) (by unfold jw_FU; omega) pyV.rfl (fun x x0 x1 => by omega)
  have L3 : pyL h3 α.2.2.1.1 := L2.keep V3 (fun f _ => by omega) (fun f _ => by omega) (by omega)
  have R3 : pyRs h3 (123 + 41 * k) (α.2.2.2.1.2.2 k) := F2.2.keep V3 (by omega) S.2 (fun f _ _ => by omega)
  refine pxW.mono (n_pair_b44 (h0 := h3) (V3.s H2) L3 R3 S.2 S.1 k0 k4 (fun a b a0 a1 b0 b1 => by
    unfold pyCe
    rw [V3.m (by omega)]
    exact C2 a b a0 a1 b0 b1) 80 jw_FU h3 0 0 0 (fun _ => -1) (by omega) (by unfold jw_FU; omega) (by omega) (by omega) (by omega) (by omega) pyV.rfl (fun x x0 x1 => Or.inl ⟨rfl, e3 x x0 x1⟩)) fun v h' q => ?_
  obtain ⟨V4, ev, P⟩ := q
  exact ⟨((V2.mono (fun k f z => Or.inl z)).trans (V3.mono (fun k f z => Or.inr z))).trans (V4.mono (fun k f z => Or.inr z)), ev, P⟩
theorem pyA.pc {h1 : jw_H} (A : pyA h α) (V : pyV pyQpc h h1) : pyA h1 α := A.keep V (fun k f z => by unfold pyQA0 at z; unfold pyQpc; omega)
theorem n_differ {k : Int} (A : pyA h α) (k0 : -2147483648 ≤ k) (k1 : k ≤ 2147483647) : pxW (f_X12_differ h 587 (pxJ k)) fun v h' => pyZ h (pz_differ k α) v h' := by
  have H := A.1
  unfold f_X12_differ g_X12_differ_b13 pz_differ
  rw [n_isFour k0 k1, px_b2]
  by_cases c : 0 ≤ k ∧ k < 4
  · rw [if_pos c, if_neg (show ¬ (pxJ 1 = 0) by decide), if_pos c, pyThr (w := 0) (t := 0) H rfl (by omega) (by omega), if_pos (show (0 : Int32) ≤ 0 from Int32.le_refl _)]
    obtain ⟨z1, z2, A1⟩ := A.n00
    generalize jw_setI h 587 0 (0 : Int32) = h1 at *
    have F := A1.2.2.2.2.1.2.2.2 k c.1 c.2
    rw [pyN_gI A1.1, px_bs, A1.2.2.2.1.1.1, pyN_g11 A1.1, px_bs, pyN_a597 A1.1 c.1 c.2, px_bs, F.1, pyN_rc A1.1, px_bs]
    refine pyW_tr z1 (pxW_b2 (n_pair A1 c.1 c.2) fun v h2 q => ?_)
    obtain ⟨V2, ev, -⟩ := q
    refine pxW_some.mpr ⟨V2.mono (fun k f z => by unfold pyQpc at z; unfold pyQZ; omega), by rw [V2.m (by unfold pyQpc; omega)]; exact z2, fun _ => ?_, A1.pc V2⟩
    rw [ev, show (2 : Int32) = pxJ 2 from rfl, pxJ_add, pxJ_mul]
    exact pxJ_sub _ _
  · rw [if_neg c, if_pos (show pxJ 0 = 0 from rfl), if_neg c, pyThr (w := 1) (t := 1) H rfl (by omega) (by omega), if_neg (show ¬ ((1 : Int32) ≤ 0) by decide)]
    exact pxW_some.mpr (pyZ_1 A)
theorem n_pairOf {k x : Int} (A : pyA h α) (k0 : -2147483648 ≤ k) (k1 : k ≤ 2147483647) (x0 : -2147483648 ≤ x) (x1 : x ≤ 2147483647) : pxW (f_X12_pairOf h 587 (pxJ k) (pxJ x)) fun v h' => pyZ h (pz_pairOf k x α) v h' := by
  have H := A.1
  have L := A.2.2.2.1.1
  have l40 := L.2.1
  have no : ¬ (0 ≤ k ∧ k < 4 ∧ 1 ≤ x ∧ x ≤ (α.2.2.1.1.length : Int)) → pxW (g_X12_pairOf_b20 h 587 (pxJ k) (pxJ x) 587) fun v h' => pyZ h (pz_pairOf k x α) v h' := by
    intro z
    unfold g_X12_pairOf_b20 g_X12_pairOf_b21 pz_pairOf
    rw [if_neg z, pyThr (w := 1) (t := 1) H rfl (by omega) (by omega), if_neg (show ¬ ((1 : Int32) ≤ 0) by decide)]
    exact pxW_some.mpr (pyZ_1 A)
  unfold f_X12_pairOf
  rw [n_isFour k0 k1, px_b2]
  by_cases c : 0 ≤ k ∧ k < 4
  · rw [if_pos c, if_neg (show ¬ (pxJ 1 = 0) by decide), pyN_rc H, px_bs, n_isLine H L x0 x1, px_b2]
    by_cases d : 1 ≤ x ∧ x ≤ (α.2.2.1.1.length : Int)
    · rw [if_pos d, if_neg (show ¬ (pxJ 1 = 0) by decide)]
      unfold g_X12_pairOf_b21 g_X12_pairOf_b62 pz_pairOf
      rw [if_pos (show 0 ≤ k ∧ k < 4 ∧ 1 ≤ x ∧ x ≤ (α.2.2.1.1.length : Int) from ⟨c.1, c.2, d.1, d.2⟩), pyThr (w := 0) (t := 0) H rfl (by omega) (by omega), if_pos (show (0 : Int32) ≤ 0 from Int32.le_refl _)]
      obtain ⟨z1, z2, A1⟩ := A.n00
      generalize jw_setI h 587 0 (0 : Int32) = h1 at *
      rw [pyN_rc A1.1, px_bs]
      refine pyW_tr z1 (pxW_b2 (n_pair A1 c.1 c.2) fun v h2 q => ?_)
      obtain ⟨V2, ev, P⟩ := q
      have A2 := A1.pc V2
      have W : pyV pyQZ h1 h2 := V2.mono (fun k f z => by unfold pyQpc at z; unfold pyQZ; omega)
      have f0 : pxM h2 587 0 = 0 := by rw [V2.m (by unfold pyQpc; omega)]; exact z2
      rw [pyN_g79 A2.1, px_bs, show pxJ x - (1 : Int32) = pxJ (x - 1) from pxJ_sub x 1, pyN_a618 A2.1 (by omega) (by omega), px_bs]
      rcases P x d.1 (by omega) with ⟨p1, p2⟩ | ⟨p1, p2, p3⟩
      · rw [p2, if_pos (show pxJ 0 ≤ 0 from Int32.le_refl _), p1]
        exact pxW_some.mpr ⟨W, f0, fun _ => rfl, A2⟩
      · rw [p3, if_neg (show ¬ (pxJ ((pzPairs k α).2 x) ≤ 0) from pyLe0 (z := (pzPairs k α).2 x) (by omega) (by omega) (by omega)), px_bs, pyN_a618 A2.1 (by omega) (by omega), px_bs, p3]
        exact pxW_some.mpr ⟨W, f0, fun _ => rfl, A2⟩
    · rw [if_neg d, if_pos (show pxJ 0 = 0 from rfl)]
      exact no (fun z => d ⟨z.2.2.1, z.2.2.2⟩)
  · rw [if_neg c, if_pos (show pxJ 0 = 0 from rfl)]
    exact no (fun z => c ⟨z.1, z.2.1⟩)
end
