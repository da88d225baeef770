/-! the reference: lines met one after another -/
def pyMt (h : jw_H) (acc : List Int) : Prop := acc.length ≤ 40 ∧ ∀ y : Int, 1 ≤ y → y ≤ acc.length → pxM h 604 (y - 1).toNat = pxG 0 acc y
def pyQmt : Nat → Nat → Prop := fun k f => pyQn k f ∨ k = 604
def pyQE : Nat → Nat → Prop := fun k f => pyQI k f ∨ k = 604
theorem pyInv_now {T : pxTx} (I : pxInv T) {x : Int} (x1 : 1 ≤ x) (x2 : x ≤ T.1.length) : pxInv (T.1, T.2.1, x, T.2.2.2) :=
  ⟨I.1, I.2.1, by show (0 : Int) ≤ x; omega, x2, fun _ => x1, I.2.2.2.2.2.1, I.2.2.2.2.2.2⟩
theorem n_each_b107 {nB : Int} {s : List Int} {z : Int} (z0 : 0 ≤ z) (z1 : z < s.length) (ok : (pyPs s z).1 = true) (n48 : pxP s (pyPs s z).2.1 ≠ 48) : ∀ (r : List Int) (N : Nat) (h : jw_H) (k n came : Int) (T : pxTx) (S : pxSto) (rep : Bool), k + r.length = n → 0 ≤ k → n ≤ 40 → r.length < N → pyGs nB h s T S rep came → (∀ j : Int, 0 ≤ j → j < r.length → pxM h 604 (k + j).toNat = pxG 0 r (j + 1)) →
    pxW (f_X12_each_b107 N h 587 (pxJ z) (pxJ n) (pxJ k)) fun v h' => pyV pyQI h h' ∧ pyIR nB s (pxMets s (pyPs s z).2.2 r came T S rep) v h'
  | [], N, h, k, n, came, T, S, rep, hk, k0, n40, hN, W, A => by
    obtain ⟨N, rfl, -⟩ := px_fu hN
    simp only [List.length_nil] at hk
    rw [u_X12_each_b107]
    unfold g_X12_each_b107
    rw [if_pos (by rw [pxJ_le (by omega) (by omega) (by omega) (by omega)]; omega)]
    exact pxW_some.mpr ⟨pyV.rfl, rfl, py_0.1, py_0.2, fun _ => W⟩
  | id :: r, N, h, k, n, came, T, S, rep, hk, k0, n40, hN, W, A => by
    have W0 := W
    obtain ⟨H, G, X, Y, I, e44, e45, ca0, ca1, nb, nB1⟩ := W
    simp only [List.length_cons] at hk A hN
    obtain ⟨N, rfl, hN⟩ := px_fu hN
    have l40 := X.1.2.1
    have eid : pxM h 604 k.toNat = id := by
      have := A 0 (by omega) (by omega)
      rw [show k + 0 = k by omega] at this
      exact this
    have b1 := pxM_lo h 604 k.toNat
    have b2 := pxM_hi h 604 k.toNat
    rw [eid] at b1 b2
    have A' : ∀ j : Int, 0 ≤ j → j < r.length → pxM h 604 (k + 1 + j).toNat = pxG 0 r (j + 1) := by
      intro j j0 j1
      have := A (j + 1) (by omega) (by omega)
      rw [show k + (j + 1) = k + 1 + j by omega] at this
      rw [this]
      unfold pxG
      rw [show (j + 1 + 1 - 1).toNat = (j + 1 - 1).toNat + 1 by omega]
      rfl
    have no := pxNo_in T.1 id
    have lw := n_lineWith H X.1 (id := id) b1 b2
    rw [u_X12_each_b107]
    unfold g_X12_each_b107 g_X12_each_b153 pxMets
    rw [if_neg (by rw [pxJ_le (by omega) (by omega) (by omega) (by omega)]; omega), pyN_g46 H, px_bs, pyN_a604 H k0 (by omega), px_bs, eid, pyN_rc H, px_bs, lw, px_b2]
    unfold pyNo
    by_cases c : pxNo T.1 id = -1
    · rw [if_pos c, if_pos c, if_pos (show pxJ 0 ≤ (0 : Int32) by decide)]
      rw [show pxJ k + (1 : Int32) = pxJ (k + 1) from pxJ_add k 1]
      exact n_each_b107 z0 z1 ok n48 r N h (k + 1) n came T S rep (by omega) (by omega) n40 (by omega) W0 A'
    · rw [if_neg c, if_neg c]
      have nl : ¬ (pxJ (pxNo T.1 id) ≤ (0 : Int32)) := by
        intro y
        have := (pxJ_le (a := pxNo T.1 id) (b := 0) (by omega) (by omega) (by omega) (by omega)).mp y
        omega
      rw [if_neg nl, pyN_pI H, px_bs]
      have H1 : pyS (jw_setI h 587 16 (pxJ (pxNo T.1 id))) := H
      have V1 : pyV (fun k f => k = 587 ∧ f = 16) h (jw_setI h 587 16 (pxJ (pxNo T.1 id))) := pyV.rfl.set ⟨rfl, rfl⟩
      have V1' : pyV pyQI h (jw_setI h 587 16 (pxJ (pxNo T.1 id))) := V1.mono (fun k f z => by unfold pyQI pyQA4 pyQA; omega)
      have W1 : pyGs nB (jw_setI h 587 16 (pxJ (pxNo T.1 id))) s (T.1, T.2.1, pxNo T.1 id, T.2.2.2) S rep came :=
        ⟨H1, G.i V1', ⟨X.1.keep V1 (fun f _ => by omega) (fun f _ => by omega) (by omega), X.2.1.keep V1 (fun f _ => by omega), by rw [pxM_eq (by omega) (by omega)], by rw [pxM_ne (by omega)]; exact X.2.2.2⟩, Y.keep V1 (fun k f z => by omega), pyInv_now I (by omega) (by omega), by rw [pxM_ne (by omega)]; exact e44, by rw [pxM_ne (by omega)]; exact e45, ca0, ca1, nb, nB1⟩
      rw [pyN_rc H1, px_bs]
      refine pxW_b2 (n_doParts W1 z0 z1 ok n48) fun v h2 q => ?_
      obtain ⟨V2, rfl, r0, r1, R2⟩ := q
      generalize pxInnr s (pyPs s z).2.2 came (T.1, T.2.1, pxNo T.1 id, T.2.2.2) S rep = R at *
      by_cases d : R.1 = 0
      · rw [if_neg (show ¬ R.1 ≠ 0 from fun y => y d), d, if_pos (show pxJ 0 ≤ (0 : Int32) by decide)]
        rw [show pxJ k + (1 : Int32) = pxJ (k + 1) from pxJ_add k 1]
        refine pxW.mono (n_each_b107 z0 z1 ok n48 r N h2 (k + 1) n _ _ _ _ (by omega) (by omega) n40 (by omega) (R2 d) (fun j j0 j1 => by rw [V2.m (by unfold pyQI pyQA4 pyQA pyQg2 pyQl; omega), pxM_ne (by omega)]; exact A' j j0 j1)) fun v h' q => ?_
        exact ⟨(V1'.trans V2).trans q.1, q.2⟩
      · rw [if_pos (show R.1 ≠ 0 from d)]
        have nl2 : ¬ (pxJ R.1 ≤ (0 : Int32)) := by
          intro y
          have := (pxJ_le (a := R.1) (b := 0) (by omega) (by omega) (by omega) (by omega)).mp y
          omega
        rw [if_neg nl2]
        exact pxW_some.mpr ⟨V1'.trans V2, rfl, r0, r1, fun y => absurd y d⟩
theorem pyMt.app {h : jw_H} {acc : List Int} {id : Int} (M : pyMt h acc) (l : acc.length < 40) (b1 : -2147483648 ≤ id) (b2 : id ≤ 2147483647) : pyMt (jw_setI h 604 acc.length (pxJ id)) (acc ++ [id]) := by
  refine ⟨by rw [List.length_append, List.length_singleton]; omega, fun y y1 y2 => ?_⟩
  rw [List.length_append, List.length_singleton] at y2
  unfold pxG
  by_cases e : y = acc.length + 1
  · rw [e, show ((acc.length : Int) + 1 - 1).toNat = acc.length by omega, pxM_eq b1 b2, List.getD_eq_getElem?_getD, List.getElem?_append_right (Nat.le_refl _), Nat.sub_self]
    rfl
  · rw [pxM_ne (by omega), M.2 y y1 (by omega)]
    unfold pxG
    rw [List.getD_eq_getElem?_getD, List.getD_eq_getElem?_getD, List.getElem?_append_left (by omega)]
/-- which lines are met -/
theorem n_each_b40 {s : List Int} {c pa z f l : Int} {ls : pxLs} {h0 : jw_H} {Q : Int32 → jw_H → Prop} (hc : c = 103 ∨ c = 71 ∨ c = 123) (f1 : 1 ≤ f) (l1 : l ≤ ls.length) (H : pyS h0) (G : pyG h0 s) (L : pyL h0 ls) (e43 : pxM h0 587 43 = l) (C : c ≠ 123 → pyPk s (pa + 2) ∧ pyPt' h0 s (pa + 2))
    (hQ : ∀ h1, pyV pyQmt h0 h1 → pyMt h1 (pxMetL s c pa (pxSub ls f l)) → pxW (f_X12_each_b107 jw_FU h1 587 (pxJ z) (pxJ ((pxMetL s c pa (pxSub ls f l)).length : Int)) (pxJ 0)) Q) : ∀ (m N : Nat) (h : jw_H) (x : Int) (acc : List Int), x + m = l + 1 → f ≤ x → m < N → pyV pyQmt h0 h → pyMt h acc → (acc.length : Int) ≤ x - f → acc ++ pxMetL s c pa (pxSub ls x l) = pxMetL s c pa (pxSub ls f l) →
    pxW (f_X12_each_b40 N h 587 (pxJ c) (pxJ z) (pxJ (acc.length : Int)) (pxJ x)) Q := by
  have l40 := L.2.1
  intro m
  induction m with
  | zero =>
    intro N h x acc hx fx hN V M al ea
    obtain ⟨N, rfl, -⟩ := px_fu hN
    have e0 : pxSub ls x l = [] := pySub_0 (by omega)
    rw [e0] at ea
    have e1 : pxMetL s c pa [] = [] := rfl
    rw [e1, List.append_nil] at ea
    have f43 : pxM h 587 43 = l := by rw [V.m (by unfold pyQmt pyQn; omega)]; exact e43
    rw [u_X12_each_b40]
    unfold g_X12_each_b40
    rw [pyN_gI (V.s H), px_bs, f43, if_pos (by rw [pxJ_lt (by omega) (by omega) (by omega) (by omega)]; omega)]
    have B := hQ h V (by rw [← ea]; exact M)
    rw [← ea] at B
    exact B
  | succ m ih =>
    intro N h x acc hx fx hN V M al ea
    obtain ⟨N, rfl, hN⟩ := px_fu hN
    have H1 := V.s H
    have L1 : pyL h ls := L.keep V (fun f _ => by unfold pyQmt pyQn; omega) (fun f _ => by unfold pyQmt pyQn; omega) (by unfold pyQmt pyQn; omega)
    have f43 : pxM h 587 43 = l := by rw [V.m (by unfold pyQmt pyQn; omega)]; exact e43
    have Ln := L1.2.2.2 x (by omega) (by omega)
    have b1 := pxM_lo h 593 (x - 1).toNat
    have b2 := pxM_hi h 593 (x - 1).toNat
    have eid := Ln.2
    rw [eid] at b1 b2
    have ec : pxSub ls x l = pxAt ls x :: pxSub ls (x + 1) l := pySub_c (d := (0, [])) (by omega) (by omega) l1
    have em : pxMetL s c pa (pxSub ls x l) = if pxMetF s c pa (pxAt ls x) = true then (pxAt ls x).1 :: pxMetL s c pa (pxSub ls (x + 1) l) else pxMetL s c pa (pxSub ls (x + 1) l) := by
      rw [ec]
      unfold pxMetL
      rw [List.filter_cons]
      by_cases y : pxMetF s c pa (pxAt ls x) = true
      · rw [if_pos y, if_pos y, List.map_cons]
      · rw [if_neg y, if_neg y]
    -- the line is met
    have yes : pxMetF s c pa (pxAt ls x) = true → ∀ h1, pyV pyQmt h h1 → pyMt h1 acc → pxW (g_X12_each_b79 (f_X12_each_b40 N) h1 587 (pxJ c) (pxJ z) (pxJ (acc.length : Int)) (pxJ x)) Q := by
      intro y h1 V1 M1
      rw [if_pos y] at em
      have H2 := V1.s H1
      have eid1 : pxM h1 593 (x - 1).toNat = (pxAt ls x).1 := by rw [V1.m (by unfold pyQmt pyQn; omega)]; exact eid
      have VS : pyV pyQmt h0 (jw_setI h1 604 acc.length (pxJ (pxAt ls x).1)) := (V.trans V1).set (Or.inr rfl)
      have B := ih N (jw_setI h1 604 acc.length (pxJ (pxAt ls x).1)) (x + 1) (acc ++ [(pxAt ls x).1]) (by omega) (by omega) (by omega) VS (M1.app (by omega) b1 b2) (by rw [List.length_append, List.length_singleton]; omega) (by rw [← ea, em, List.append_assoc]; rfl)
      rw [show ((acc ++ [(pxAt ls x).1]).length : Int) = (acc.length : Int) + 1 by rw [List.length_append, List.length_singleton]; omega] at B
      unfold g_X12_each_b79 g_X12_each_b98
      have a40 : (acc.length : Int) < 40 := by omega
      rw [pyN_g46 H2, px_bs, pyN_g7 H2, px_bs, show pxJ x - (1 : Int32) = pxJ (x - 1) from pxJ_sub x 1, pyN_a593 H2 (by omega) (by omega), px_bs, eid1, pyN_s604 H2 (by omega) a40, px_bs, show pxJ (acc.length : Int) + (1 : Int32) = pxJ ((acc.length : Int) + 1) from pxJ_add _ 1, show pxJ x + (1 : Int32) = pxJ (x + 1) from pxJ_add x 1, show ((acc.length : Int)).toNat = acc.length by omega]
      exact B
    have non : ¬ pxMetF s c pa (pxAt ls x) = true → ∀ h1, pyV pyQmt h h1 → pyMt h1 acc → pxW (g_X12_each_b98 (f_X12_each_b40 N) h1 587 (pxJ c) (pxJ z) (pxJ (acc.length : Int)) (pxJ x)) Q := by
      intro y h1 V1 M1
      rw [if_neg y] at em
      have B := ih N h1 (x + 1) acc (by omega) (by omega) (by omega) (V.trans V1) M1 (by omega) (by rw [← ea, em])
      unfold g_X12_each_b98
      rw [show pxJ x + (1 : Int32) = pxJ (x + 1) from pxJ_add x 1]
      exact B
    rw [u_X12_each_b40]
    unfold g_X12_each_b40
    rw [pyN_gI H1, px_bs, f43, if_neg (by rw [pxJ_lt (by omega) (by omega) (by omega) (by omega)]; omega)]
    by_cases c123 : c = 123
    · rw [c123] at yes ⊢
      rw [if_pos (show pxJ 123 = (123 : Int32) from rfl)]
      exact yes (by unfold pxMetF; rfl) h pyV.rfl M
    have nc : ¬ (pxJ c = (123 : Int32)) := fun y => c123 ((pxJ_eq (a := c) (b := 123) (by omega) (by omega) (by omega) (by omega)).mp y)
    obtain ⟨K, P0⟩ := C c123
    have G1 : pyG h s := G.keep V (by unfold pyQmt pyQn; omega) (fun f _ => by unfold pyQmt pyQn; omega)
    have P1 : pyPt' h s (pa + 2) := P0.keep V (fun f _ _ => by unfold pyQmt pyQn; omega) (fun f => ⟨by unfold pyQmt pyQn; omega, by unfold pyQmt pyQn; omega⟩)
    rw [if_neg nc, n_textRow (by omega) (by omega), px_b2, pyN_rc H1, px_bs]
    refine pxW_b2 (n_finds K (i := x - 1) (fr := 0) ⟨H1, G1, Ln.1, P1⟩ (by omega) (by omega) (pyAt_or L.2.2.1 x) (by omega) (by omega)) fun v h2 q => ?_
    obtain ⟨V2, S2⟩ := q
    have V2' : pyV pyQmt h h2 := V2.mono (fun k f z => Or.inl z)
    have M2 : pyMt h2 acc := ⟨M.1, fun y y1 y2 => by rw [V2.m (by unfold pyQn; omega)]; exact M.2 y y1 y2⟩
    have eh : pxMetF s c pa (pxAt ls x) = ((pxFind s (pxAt ls x).2 (pxFull s (pa + 2)) 0 false).isSome == decide (c = 103)) := by
      unfold pxMetF pxHolds
      rw [show decide (c = 123) = false from decide_eq_false c123, Bool.false_or]
    have hv : v = pxJ (if (pxFind s (pxAt ls x).2 (pxFull s (pa + 2)) 0 false).isSome = true then 1 else 0) := by
      cases y : pxFind s (pxAt ls x).2 (pxFull s (pa + 2)) 0 false with
      | none => rw [y] at S2; exact S2.1 rfl
      | some w => rw [y] at S2; exact (S2.2 w.1 w.2.1 w.2.2.1 w.2.2.2 rfl).1
    rw [hv]
    unfold g_X12_each_b76
    by_cases c103 : c = 103
    · rw [show decide (c = 103) = true from decide_eq_true c103] at eh
      rw [if_pos (show pxJ c = (103 : Int32) by rw [c103]; rfl)]
      cases y : (pxFind s (pxAt ls x).2 (pxFull s (pa + 2)) 0 false).isSome with
      | true =>
        rw [show (if true = true then (1 : Int) else 0) = 1 from rfl, if_pos (show pxJ 1 = (1 : Int32) from rfl)]
        exact yes (by rw [eh, y]; rfl) h2 V2' M2
      | false =>
        rw [show (if false = true then (1 : Int) else 0) = 0 from rfl, if_neg (show ¬ (pxJ 0 = (1 : Int32)) by decide)]
        exact non (by rw [eh, y]; decide) h2 V2' M2
    · rw [show decide (c = 103) = false from decide_eq_false c103] at eh
      have n103 : ¬ (pxJ c = (103 : Int32)) := fun y => c103 ((pxJ_eq (a := c) (b := 103) (by omega) (by omega) (by omega) (by omega)).mp y)
      rw [if_neg n103]
      cases y : (pxFind s (pxAt ls x).2 (pxFull s (pa + 2)) 0 false).isSome with
      | true =>
        rw [show (if true = true then (1 : Int) else 0) = 1 from rfl, if_neg (show ¬ (pxJ 1 = (0 : Int32)) by decide)]
        exact non (by rw [eh, y]; decide) h2 V2' M2
      | false =>
        rw [show (if false = true then (1 : Int) else 0) = 0 from rfl, if_pos (show pxJ 0 = (0 : Int32) from rfl)]
        exact yes (by rw [eh, y]; rfl) h2 V2' M2
theorem pyPtn_ok {s : List Int} {a : Int} (ok : (pxPtn s (a + 1)).1 = true) (a0 : 0 ≤ a) (a1 : a + 1 ≤ s.length) : pyPk s (a + 2) ∧ pxP s (pxPat s (a + 2)).2 = 47 ∧ (pxPtn s (a + 1)).2 = (pxPat s (a + 2)).2 + 1 := by
  unfold pxPtn at ok ⊢
  rw [show a + 1 + 1 = a + 2 by omega] at ok ⊢
  by_cases c : pxP s (a + 1) = 47
  · rw [if_pos c] at ok ⊢
    have pl := (pxP_lt (s := s) (p := a + 1) (by omega)).2
    by_cases d : (pxPat s (a + 2)).1 = true
    · rw [if_pos d] at ok ⊢
      by_cases e : pxP s (pxPat s (a + 2)).2 = 47
      · rw [if_pos e]
        exact ⟨⟨by omega, by omega, d⟩, e, rfl⟩
      · rw [if_neg e] at ok; cases ok
    · rw [if_neg d] at ok; cases ok
  · rw [if_neg c] at ok; cases ok
/-- where the parts of an order that meets lines stand -/
def pyPz (s : List Int) (pa : Int) : Int := if pxP s pa = 123 then pa else (pxPtn s (pa + 1)).2
set_option maxHeartbeats 8000000 in
theorem n_each {nB : Int} {h : jw_H} {s : List Int} {pa f l came : Int} {T : pxTx} {S : pxSto} {rep : Bool} (W : pyGs nB h s T S rep came) (e42 : pxM h 587 42 = f) (e43 : pxM h 587 43 = l) (f1 : 1 ≤ f) (fl : f ≤ l + 1) (l1 : l ≤ T.1.length) (p0 : 0 ≤ pa) (hc : pxP s pa = 103 ∨ pxP s pa = 71 ∨ pxP s pa = 123) (pt : pxP s pa ≠ 123 → (pxPtn s (pa + 1)).1 = true) (z1 : pyPz s pa < s.length) (ok : (pyPs s (pyPz s pa)).1 = true) (n48 : pxP s (pyPs s (pyPz s pa)).2.1 ≠ 48) :
    pxW (f_X12_each h 587 (pxJ pa)) fun v h' => pyV pyQE h h' ∧ pyIR nB s (pxMets s (pyPs s (pyPz s pa)).2.2 (pxMetL s (pxP s pa) pa (pxSub T.1 f l)) came T S rep) v h' := by
  have W0 := W
  obtain ⟨H, G, X, Y, I, e44, e45, ca0, ca1, nb, nB1⟩ := W
  have l60 := G.2.1.1
  have l40 := X.1.2.1
  have pl := (pxP_lt (s := s) (p := pa) (by omega)).2
  have m := G.2.2 pa p0 pl
  rw [← pxP_E p0 pl] at m
  have sl := pxSub_len (l := T.1) (x := f) (y := l) f1 (by omega) l1
  have ml : (pxMetL s (pxP s pa) pa (pxSub T.1 f l)).length ≤ (pxSub T.1 f l).length := by
    unfold pxMetL
    rw [List.length_map]
    exact List.length_filter_le _ _
  -- from a state in which the pattern stands
  have go : ∀ h1, pyV pyQI h h1 → pyGs nB h1 s T S rep came → pxM h1 587 42 = f → pxM h1 587 43 = l → 0 ≤ pyPz s pa → (pxP s pa ≠ 123 → pyPk s (pa + 2) ∧ pyPt' h1 s (pa + 2)) →
      pxW (g_X12_each_b34 h1 587 (pxJ (pxP s pa)) (pxJ (pyPz s pa)) (pxJ 0)) fun v h' => pyV pyQE h h' ∧ pyIR nB s (pxMets s (pyPs s (pyPz s pa)).2.2 (pxMetL s (pxP s pa) pa (pxSub T.1 f l)) came T S rep) v h' := by
    intro h1 V1 W1 f42 f43 z0 C
    unfold g_X12_each_b34
    rw [pyN_gI W1.1, px_bs, f42]
    refine n_each_b40 (h0 := h1) (z := pyPz s pa) (f := f) (l := l) (ls := T.1) hc f1 l1 W1.1 W1.2.1 W1.2.2.1.1 f43 C (fun h2 V2 M2 => ?_) (l + 1 - f).toNat jw_FU h1 f [] (by omega) (by omega) (by unfold jw_FU; omega) pyV.rfl ⟨by simp, fun y y1 y2 => by simp at y2; omega⟩ (by simp) (by rw [List.nil_append])
    obtain ⟨H1, G1, X1, Y1, -, g44, g45, -⟩ := W1
    have W2 : pyGs nB h2 s T S rep came := ⟨V2.s H1, G1.keep V2 (by unfold pyQmt pyQn; omega) (fun f _ => by unfold pyQmt pyQn; omega), X1.keep V2 (fun k f z => by unfold pyQmt pyQn; omega), Y1.keep V2 (fun k f z => by unfold pyQmt pyQn; omega), I, by rw [V2.m (by unfold pyQmt pyQn; omega)]; exact g44, by rw [V2.m (by unfold pyQmt pyQn; omega)]; exact g45, ca0, ca1, nb, nB1⟩
    refine pxW.mono (n_each_b107 z0 z1 ok n48 (pxMetL s (pxP s pa) pa (pxSub T.1 f l)) jw_FU h2 0 _ came T S rep (by omega) (by omega) (by omega) (by unfold jw_FU; omega) W2 (fun j j0 j1 => ?_)) fun v h' q => ?_
    · have := M2.2 (j + 1) (by omega) (by omega)
      rwa [show j + 1 - 1 = 0 + j by omega] at this
    · exact ⟨((V1.mono (Q := pyQE) (fun k f z => Or.inl z)).trans (V2.mono (fun k f z => by unfold pyQmt pyQn at z; unfold pyQE pyQI pyQg2 pyQl; omega))).trans (q.1.mono (fun k f z => Or.inl z)), q.2⟩
  unfold f_X12_each
  rw [pyN_g21 H, px_bs, pyN_a599 H p0 (by omega), px_bs, m]
  by_cases c : pxP s pa = 123
  · have ez : pyPz s pa = pa := by unfold pyPz; rw [if_pos c]
    have B := go h pyV.rfl W0 e42 e43 (by rw [ez]; exact p0) (fun y => absurd c y)
    rw [ez] at B ⊢
    rw [if_pos (show pxJ (pxP s pa) = (123 : Int32) by rw [c]; rfl)]
    exact B
  · have nc : ¬ (pxJ (pxP s pa) = (123 : Int32)) := fun y => c ((pxJ_eq (a := pxP s pa) (b := 123) (by omega) (by omega) (by omega) (by omega)).mp y)
    obtain ⟨K, k47, kz⟩ := pyPtn_ok (pt c) p0 (by omega)
    have ez : pyPz s pa = (pxPat s (pa + 2)).2 + 1 := by unfold pyPz; rw [if_neg c, kz]
    have pb := pxPat_b (s := s) (p := pa + 2) K.1 K.2.1
    have cp := pyC_f G.2.1 (p := (pxPat s (pa + 2)).2) (by omega)
    rw [if_neg nc, pyN_rc H, px_bs, show pxJ pa + (2 : Int32) = pxJ (pa + 2) from pxJ_add pa 2]
    refine pxW_b2 (n_compile (u := 47) (p := pa + 2) (by omega) H G K.1 K.2.1 K.2.2 (by omega)) fun _ h1 w => ?_
    obtain ⟨V1, P1, e37⟩ := w
    have V1' : pyV pyQI h h1 := V1.mono (fun k f z => by unfold pyQk at z; unfold pyQI pyQg2 pyQl; omega)
    have H1 := V1.s H
    have W1 : pyGs nB h1 s T S rep came := ⟨H1, G.i V1', X.keep V1 (fun k f z => by unfold pyQk; omega), Y.keep V1 (fun k f z => by unfold pyQk; omega), I, by rw [V1.m (by unfold pyQk; omega)]; exact e44, by rw [V1.m (by unfold pyQk; omega)]; exact e45, ca0, ca1, nb, nB1⟩
    rw [pyN_gI H1, px_bs, e37, show pxJ (pxPat s (pa + 2)).2 + (1 : Int32) = pxJ ((pxPat s (pa + 2)).2 + 1) from pxJ_add _ 1, ← ez]
    exact go h1 V1' W1 (by rw [V1.m (by unfold pyQk; omega)]; exact e42) (by rw [V1.m (by unfold pyQk; omega)]; exact e43) (by omega) (fun _ => ⟨K, P1⟩)
