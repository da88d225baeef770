/-! the reference, line by line: files made empty, the new text, all of it -/
def pyC1 (s : List Int) (q : Int) (S : pxSto) : pxSto := if pxAc s q = 119 then (S.1, S.2.1, pxUF S.2.2 (pxOn s (pxWh s q).2.1) []) else S
def pyClS (s : List Int) : List Int → pxSto → pxSto
  | [], S => S
  | q :: r, S => pyClS s r (pyC1 s q S)
theorem pyClr_app {s : List Int} : ∀ (a b : List (Int × Nat)) (S : pxSto), pxBClr s (a ++ b) S = pxBClr s b (pxBClr s a S)
  | [], _, _ => rfl
  | e :: r, b, S => by
    show pxBClr s (r ++ b) _ = pxBClr s b (pxBClr s r _)
    rw [pyClr_app r b]
theorem pyClr_I {s : List Int} : ∀ (ps : List Int) (i : Nat) (S : pxSto), pxBClr s (pxFlI ps i) S = pyClS s ps S
  | [], _, _ => rfl
  | q :: r, i, S => by
    show pxBClr s (pxFlI r (i + 1)) (pyC1 s q S) = pyClS s r (pyC1 s q S)
    exact pyClr_I r (i + 1) _
theorem pyClr_c {s : List Int} {t : Int × List Int} {r : List (Int × List Int)} {i : Nat} {S : pxSto} : pxBClr s (pxFl (t :: r) i) S = pxBClr s (pxFl r (i + 1 + t.2.length)) (pyClS s t.2 (pyC1 s t.1 S)) := by
  show pxBClr s (((t.1, i + 1 + t.2.length) :: pxFlI t.2 (i + 1)) ++ pxFl r (i + 1 + t.2.length)) S = _
  rw [pyClr_app]
  show pxBClr s (pxFl r (i + 1 + t.2.length)) (pxBClr s (pxFlI t.2 (i + 1)) (pyC1 s t.1 S)) = _
  rw [pyClr_I]
def pyQem : Nat → Nat → Prop := fun k f => pyQp k f ∨ (k = 597 ∧ f < 4) ∨ pyQk k f
theorem n_emptyFile {h : jw_H} {s : List Int} {q : Int} {S : pxSto} (H : pyS h) (G : pyG h s) (Y : pyY h S) (q0 : 0 ≤ q) (q1 : q ≤ s.length) (pn : pxAc s q ≠ -1) (aok : pxAc s q = 119 → (pxAct s (pxWh s q).2.1).1 = true) :
    pxW (f_X12_emptyFile h 587 (pxJ (pxWh s q).2.1)) fun _ h' => pyV pyQem h h' ∧ pyY h' (pyC1 s q S) := by
  have l60 := G.2.1.1
  have wb := pxWh_b (s := s) q0 q1
  have pl := (pxP_lt (s := s) (p := (pxWh s q).2.1) pn).2
  have m := G.2.2 (pxWh s q).2.1 (by omega) pl
  rw [← pxP_E (by omega) pl] at m
  have ea : pxP s (pxWh s q).2.1 = pxAc s q := rfl
  have pb := pyP_200 G.2.1 (pxWh s q).2.1
  rw [ea] at m pb
  unfold f_X12_emptyFile pyC1
  rw [pyN_g21 H, px_bs, pyN_a599 H (by omega) (by omega), px_bs, m]
  by_cases c : pxAc s q = 119
  · have dg := pyAct_f (aok c) (Or.inr c)
    have pl1 := (pxP_lt (s := s) (p := (pxWh s q).2.1 + 1) (by omega)).2
    have m1 := G.2.2 ((pxWh s q).2.1 + 1) (by omega) pl1
    rw [← pxP_E (by omega) pl1] at m1
    have eo : pxOn s (pxWh s q).2.1 = pxP s ((pxWh s q).2.1 + 1) - 48 := by
      unfold pxOn
      rw [ea, if_neg (by omega), if_pos (Or.inr c)]
    rw [if_pos c, if_pos (show pxJ (pxAc s q) = (119 : Int32) by rw [c]; rfl), pyN_g11 H, px_bs, px_bs, show pxJ (pxWh s q).2.1 + (1 : Int32) = pxJ ((pxWh s q).2.1 + 1) from pxJ_add _ 1, pyN_a599 H (by omega) (by omega), px_bs, m1, show pxJ (pxP s ((pxWh s q).2.1 + 1)) - (48 : Int32) = pxJ (pxP s ((pxWh s q).2.1 + 1) - 48) from pxJ_sub _ 48, pyN_s597 H (by omega) (by omega), px_bs, eo, show (0 : Int32) = pxJ 0 from rfl]
    generalize ek : pxP s ((pxWh s q).2.1 + 1) - 48 = k
    have k0 : 0 ≤ k := by omega
    have k4 : k < 4 := by omega
    have V : pyV (fun a f => a = 597 ∧ (f : Int) = k) h (jw_setI h 597 k.toNat (pxJ 0)) := pyV.rfl.set ⟨rfl, by omega⟩
    have g0 : pxM (jw_setI h 597 k.toNat (pxJ 0)) 597 k.toNat = 0 := by rw [pxM_eq (by omega) (by omega)]
    obtain ⟨IS, He, Ou, Fi⟩ := Y
    refine pxW_some.mpr ⟨V.mono (fun a f z => Or.inr (Or.inl ⟨z.1, by omega⟩)), ⟨IS.1, IS.2.1, fun j j0 j4 => ?_⟩, He.keep IS.1.1 IS.1.2 V (fun f _ _ => by omega) (by omega), Ou.keep IS.2.1.1 IS.2.1.2 V (fun f _ _ => by omega) (by omega), fun j j0 j4 => ?_⟩
    · show (pxUF S.2.2 k [] j).length ≤ 40 ∧ pxOk (pxUF S.2.2 k [] j)
      unfold pxUF
      by_cases e : j = k
      · rw [if_pos e]; exact ⟨by decide, pxOk_nil⟩
      · rw [if_neg e]; exact IS.2.2 j j0 j4
    · show pxM _ 597 j.toNat = (pxUF S.2.2 k [] j).length ∧ pyRs _ (123 + 41 * j) (pxUF S.2.2 k [] j)
      unfold pxUF
      by_cases e : j = k
      · rw [if_pos e, e]
        exact ⟨g0, fun x x0 x1 => by
          have : x ≤ 0 := x1
          omega⟩
      · rw [if_neg e]
        obtain ⟨w1, w2⟩ := IS.2.2 j j0 j4
        obtain ⟨z1, z2⟩ := Fi j j0 j4
        exact ⟨by rw [V.m (by omega)]; exact z1, z2.keep V (by omega) w2 (fun f _ _ => by omega)⟩
  · rw [if_neg c, if_neg (show ¬ (pxJ (pxAc s q) = (119 : Int32)) from py32 (a := pxAc s q) (b := 119) c (by omega) (by omega) (by omega) (by omega))]
    exact pxW_some.mpr ⟨pyV.rfl, Y⟩
theorem pyG.e {h h1 : jw_H} {s : List Int} (G : pyG h s) (V : pyV pyQem h h1) : pyG h1 s := G.keep V (by unfold pyQem pyQp pyQk; omega) (fun f _ => by unfold pyQem pyQp pyQk; omega)
theorem n_emptyInner {h : jw_H} {s : List Int} {q : Int} {S : pxSto} (H : pyS h) (G : pyG h s) (Y : pyY h S) (q0 : 0 ≤ q) (q1 : q ≤ s.length) (ok : (pxInn s q).1 = true) :
    pxW (f_X12_emptyInner h 587 (pxJ q)) fun _ h' => pyV pyQem h h' ∧ pyY h' (pyC1 s q S) := by
  obtain ⟨wok, ns, aok, ea⟩ := pyInn_a ok
  have pn : pxAc s q ≠ -1 := by
    intro z
    have aok' := aok
    unfold pxAc at z
    unfold pxAct at aok'
    rw [z] at aok'
    have aok2 : (false, (pxWh s q).2.1).1 = true := aok'
    cases aok2
  unfold f_X12_emptyInner
  rw [pyN_rc H, px_bs]
  refine pxW_b2 (n_readWhere H G q0 q1 wok) fun _ h1 w => ?_
  obtain ⟨V1, Wh⟩ := w
  have H1 := V1.s H
  rw [pyN_gI H1, px_bs, Wh.2.2.2, pyN_rc H1, px_bs]
  refine pxW_b2 (n_emptyFile H1 (G.p V1) (Y.keep V1 (fun k f z => by unfold pyQp; omega)) q0 q1 pn (fun _ => aok)) fun _ h2 w => pxW_some.mpr ?_
  exact ⟨(V1.mono (fun k f z => Or.inl z)).trans w.1, w.2⟩
set_option maxHeartbeats 8000000 in
theorem n_emptyParts_b21 {s : List Int} {fr : Int} (f0 : 0 ≤ fr) (f1 : fr < s.length) (c123 : pxP s fr = 123) : ∀ (b N : Nat) (h : jw_H) (p : Int) (S : pxSto), b < N → pyS h → pyG h s → pyY h S → 0 ≤ p → p ≤ s.length → (pxBlk s b p).1 = true →
    pxW (f_X12_emptyParts_b21 N h 587 (pxJ fr) (pxJ p) (pxJ 1)) fun _ h' => pyV pyQem h h' ∧ pyY h' (pyClS s (pxBlk s b p).2.2 S) := by
  intro b
  induction b with
  | zero => intro N h p S hN H G Y p0 p1 ok; cases ok
  | succ b ih =>
    intro N h p S hN H G Y p0 p1 ok
    obtain ⟨N, rfl, hN⟩ := px_fu hN
    have l60 := G.2.1.1
    have ib := pxInn_b (s := s) p0 p1
    have eB : pxBlk s (b + 1) p = (if (pxInn s p).1 = true then (if pxP s (pxInn s p).2 = 59 then ((pxBlk s b ((pxInn s p).2 + 1)).1, (pxBlk s b ((pxInn s p).2 + 1)).2.1, p :: (pxBlk s b ((pxInn s p).2 + 1)).2.2) else if pxP s (pxInn s p).2 = 125 then (true, (pxInn s p).2 + 1, [p]) else (false, (pxInn s p).2, [])) else (false, (pxInn s p).2, [])) := rfl
    have iok : (pxInn s p).1 = true := by
      by_cases z : (pxInn s p).1 = true
      · exact z
      · rw [eB, if_neg z] at ok; cases ok
    rw [eB, if_pos iok] at ok ⊢
    have ib2 := ib.2.2 iok
    have en : pxP s (pxInn s p).2 = 59 ∨ pxP s (pxInn s p).2 = 125 := by
      by_cases y : pxP s (pxInn s p).2 = 59
      · exact Or.inl y
      · by_cases y2 : pxP s (pxInn s p).2 = 125
        · exact Or.inr y2
        · rw [if_neg y, if_neg y2] at ok; cases ok
    have pl := (pxP_lt (s := s) (p := (pxInn s p).2) (by omega)).2
    rw [u_X12_emptyParts_b21]
    unfold g_X12_emptyParts_b21
    rw [if_neg (show ¬ (pxJ 1 = 0) by decide), pyN_rc H, px_bs]
    refine pxW_b2 (n_emptyInner H G Y p0 p1 iok) fun _ h1 q => ?_
    obtain ⟨V1, Y1⟩ := q
    have H1 := V1.s H
    have G1 := G.e V1
    rw [pyN_rc H1, px_bs, show (1 : Int32) = pxJ 1 from rfl]
    refine pxW_b2 (n_endOf1 H1 G1 p0 p1 iok) fun v h2 q => ?_
    obtain ⟨rfl, V2⟩ := q
    have H2 := V2.s H1
    have G2 := G1.p V2
    have V02 : pyV pyQem h h2 := V1.trans (V2.mono (fun k f z => Or.inl z))
    have Y2 : pyY h2 (pyC1 s p S) := Y1.keep V2 (fun k f z => by unfold pyQp; omega)
    have m0 := G2.2.2 fr f0 f1
    rw [← pxP_E f0 f1] at m0
    have m2 := G2.2.2 (pxInn s p).2 (by omega) pl
    rw [← pxP_E (by omega) pl] at m2
    rw [pyN_g21 H2, px_bs, pyN_a599 H2 f0 (by omega), px_bs, m0, if_pos (show pxJ (pxP s fr) = (123 : Int32) by rw [c123]; rfl), px_bs, pyN_a599 H2 (by omega) (by omega), px_bs, m2]
    unfold g_X12_emptyParts_b63 g_X12_emptyParts_b64
    rw [show pxJ (pxInn s p).2 + (1 : Int32) = pxJ ((pxInn s p).2 + 1) from pxJ_add _ 1]
    by_cases c59 : pxP s (pxInn s p).2 = 59
    · rw [if_pos c59] at ok ⊢
      rw [if_pos (show pxJ (pxP s (pxInn s p).2) = (59 : Int32) by rw [c59]; rfl)]
      exact pxW.mono (ih N h2 ((pxInn s p).2 + 1) (pyC1 s p S) (by omega) H2 G2 Y2 (by omega) (by omega) ok) fun _ h' q => ⟨V02.trans q.1, q.2⟩
    · have c125 : pxP s (pxInn s p).2 = 125 := by omega
      rw [if_neg c59, if_pos c125, if_neg (show ¬ (pxJ (pxP s (pxInn s p).2) = (59 : Int32)) from py32 (a := pxP s (pxInn s p).2) (b := 59) c59 (by omega) (by omega) (by omega) (by omega))]
      obtain ⟨N, rfl⟩ : ∃ N', N = N' + 1 := ⟨N - 1, by omega⟩
      rw [u_X12_emptyParts_b21]
      unfold g_X12_emptyParts_b21
      rw [if_pos rfl]
      exact pxW_some.mpr ⟨V02, Y2⟩
theorem n_emptyParts {h : jw_H} {s : List Int} {z : Int} {S : pxSto} (H : pyS h) (G : pyG h s) (Y : pyY h S) (z0 : 0 ≤ z) (z1 : z < s.length) (ok : (pyPs s z).1 = true) :
    pxW (f_X12_emptyParts h 587 (pxJ z)) fun _ h' => pyV pyQem h h' ∧ pyY h' (pyClS s (pyPs s z).2.2 S) := by
  have l60 := G.2.1.1
  have m0 := G.2.2 z z0 z1
  rw [← pxP_E z0 z1] at m0
  have pb := pyP_200 G.2.1 z
  unfold f_X12_emptyParts g_X12_emptyParts_b18
  rw [pyN_g21 H, px_bs, pyN_a599 H z0 (by omega), px_bs, m0]
  unfold pyPs at ok ⊢
  by_cases c : pxP s z = 123
  · rw [if_pos c] at ok ⊢
    rw [if_pos (show pxJ (pxP s z) = (123 : Int32) by rw [c]; rfl), show pxJ z + (1 : Int32) = pxJ (z + 1) from pxJ_add _ 1, show (1 : Int32) = pxJ 1 from rfl]
    exact n_emptyParts_b21 z0 z1 c 61 jw_FU h (z + 1) S (by unfold jw_FU; omega) H G Y (by omega) (by omega) ok
  · rw [if_neg c] at ok ⊢
    have nc := py32 (a := pxP s z) (b := 123) c (by omega) (by omega) (by omega) (by omega)
    obtain ⟨N, eN⟩ : ∃ N', jw_FU = (N' + 1) + 1 := ⟨99998, by unfold jw_FU; rfl⟩
    rw [if_neg (show ¬ (pxJ (pxP s z) = (123 : Int32)) from nc), eN, u_X12_emptyParts_b21]
    unfold g_X12_emptyParts_b21
    rw [if_neg (show ¬ ((1 : Int32) = 0) by decide), pyN_rc H, px_bs]
    refine pxW_b2 (n_emptyInner H G Y z0 (by omega) ok) fun _ h1 q => ?_
    obtain ⟨V1, Y1⟩ := q
    have H1 := V1.s H
    have G1 := G.e V1
    rw [pyN_rc H1, px_bs, show (1 : Int32) = pxJ 1 from rfl]
    refine pxW_b2 (n_endOf1 H1 G1 z0 (by omega) ok) fun v h2 q => ?_
    obtain ⟨rfl, V2⟩ := q
    have H2 := V2.s H1
    have G2 := G1.p V2
    have V02 : pyV pyQem h h2 := V1.trans (V2.mono (fun k f z => Or.inl z))
    have Y2 : pyY h2 (pyC1 s z S) := Y1.keep V2 (fun k f z => by unfold pyQp; omega)
    have m2 := G2.2.2 z z0 z1
    rw [← pxP_E z0 z1] at m2
    rw [pyN_g21 H2, px_bs, pyN_a599 H2 z0 (by omega), px_bs, m2, if_neg (show ¬ (pxJ (pxP s z) = (123 : Int32)) from nc)]
    unfold g_X12_emptyParts_b63 g_X12_emptyParts_b64
    rw [u_X12_emptyParts_b21]
    unfold g_X12_emptyParts_b21
    rw [if_pos rfl]
    exact pxW_some.mpr ⟨V02, Y2⟩
set_option maxHeartbeats 8000000 in
theorem n_emptyFiles_b2 {s : List Int} : ∀ (L : List (Int × List Int)) (N : Nat) (h : jw_H) (p : Int) (i : Nat) (S : pxSto), L.length < N → pyS h → pyG h s → pyY h S → 0 ≤ p → (L = [] → (s.length : Int) ≤ p) → p ≤ s.length + 1 → (L ≠ [] → pyLs s p L) →
    pxW (f_X12_emptyFiles_b2 N h 587 (pxJ p)) fun _ h' => pyV pyQem h h' ∧ pyY h' (pxBClr s (pxFl L i) S)
  | [], N, h, p, i, S, hN, H, G, Y, p0, pe, p1, A => by
    obtain ⟨N, rfl, -⟩ := px_fu hN
    have l60 := G.2.1.1
    have pe := pe rfl
    rw [u_X12_emptyFiles_b2]
    unfold g_X12_emptyFiles_b2
    rw [pyN_gI H, px_bs, G.1, if_pos (by rw [pxJ_le (by omega) (by omega) (by omega) (by omega)]; omega)]
    exact pxW_some.mpr ⟨pyV.rfl, Y⟩
  | t :: r, N, h, p, i, S, hN, H, G, Y, p0, pe, p1, A => by
    have hN' : r.length + 1 < N := hN
    obtain ⟨N, rfl, hN2⟩ := px_fu hN'
    have l60 := G.2.1.1
    obtain ⟨et, -, pl, ok, e2, nx⟩ := A (by simp)
    have tb := pxTop_b (s := s) p0 (by omega)
    have t3 := tb.2.2 ok
    have tp := pyTop_a ok
    have pn := pyTop_pn ok
    have wb := pxWh_b (s := s) p0 (by omega)
    have vt := pxTop_v p0 (by omega) ok
    rw [pyClr_c, et]
    rw [u_X12_emptyFiles_b2]
    unfold g_X12_emptyFiles_b2
    rw [pyN_gI H, px_bs, G.1, if_neg (by rw [pxJ_le (by omega) (by omega) (by omega) (by omega)]; omega), pyN_rc H, px_bs]
    refine pxW_b2 (n_readWhere H G p0 (by omega) tp.1) fun _ h1 w => ?_
    obtain ⟨V1, Wh⟩ := w
    have H1 := V1.s H
    have G1 := G.p V1
    have V1' : pyV pyQem h h1 := V1.mono (fun k f z => Or.inl z)
    have Y1 : pyY h1 S := Y.keep V1 (fun k f z => by unfold pyQp; omega)
    have apl := (pxP_lt (s := s) (p := (pxWh s p).2.1) pn).2
    have m := G1.2.2 (pxWh s p).2.1 (by omega) apl
    rw [← pxP_E (by omega) apl] at m
    have ea : pxP s (pxWh s p).2.1 = pxAc s p := rfl
    have pb := pyP_200 G.2.1 (pxWh s p).2.1
    rw [ea] at m pb
    -- behind the order
    have rest : ∀ h2 S2, pyV pyQem h h2 → pyY h2 S2 → S2 = pyClS s t.2 (pyC1 s p S) → pxW (g_X12_emptyFiles_b88 (f_X12_emptyFiles_b2 N) h2 587 (pxJ p)) fun _ h' => pyV pyQem h h' ∧ pyY h' (pxBClr s (pxFl r (i + 1 + t.2.length)) (pyClS s t.2 (pyC1 s p S))) := by
      intro h2 S2 V2 Y2 eS
      have H2 := V2.s H
      have G2 := G.e V2
      unfold g_X12_emptyFiles_b88
      rw [pyN_rc H2, px_bs, show (0 : Int32) = pxJ 0 from rfl]
      refine pxW_b2 (n_endOf0 H2 G2 p0 (by omega) ok) fun v h3 q => ?_
      obtain ⟨rfl, V3⟩ := q
      rw [show pxJ (pxTop s p).2.1 + (1 : Int32) = pxJ ((pxTop s p).2.1 + 1) from pxJ_add _ 1, ← eS]
      refine pxW.mono (n_emptyFiles_b2 r N h3 ((pxTop s p).2.1 + 1) (i + 1 + t.2.length) S2 (by omega) (V3.s H2) (G2.p V3) (Y2.keep V3 (fun k f z => by unfold pyQp; omega)) (by omega) ?_ (by omega) ?_) fun _ h' q => ⟨(V2.trans (V3.mono (fun k f z => Or.inl z))).trans q.1, q.2⟩
      · intro e
        rcases nx with z | z
        · exact absurd e z.2.1
        · omega
      · intro e
        rcases nx with z | z
        · exact z.2.2
        · exact absurd z.2 e
    -- g and G
    have grp : (pxAc s p = 103 ∨ pxAc s p = 71) → pxW (g_X12_emptyFiles_b42 (f_X12_emptyFiles_b2 N) h1 587 (pxJ p) (pxJ (pxWh s p).2.1)) fun _ h' => pyV pyQem h h' ∧ pyY h' (pxBClr s (pxFl r (i + 1 + t.2.length)) (pyClS s t.2 (pyC1 s p S))) := by
      intro c2
      obtain ⟨y1, y2, y3⟩ := tp.2.2.2.2 c2
      obtain ⟨K, p47, ep⟩ := pyPtn_ok y1 (by omega) (by omega)
      have pb2 := pxPat_b (s := s) (p := (pxWh s p).2.1 + 2) K.1 K.2.1
      have pl2 := (pxP_lt (s := s) (p := (pxPat s ((pxWh s p).2.1 + 2)).2) (by omega)).2
      have cp := pyC_f G.2.1 (p := (pxPat s ((pxWh s p).2.1 + 2)).2) (by omega)
      have z1 : (pxPtn s ((pxWh s p).2.1 + 1)).2 < s.length := by
        have y2' := y2
        unfold pyPs at y2'
        by_cases gg : pxP s (pxPtn s ((pxWh s p).2.1 + 1)).2 = 123
        · exact (pxP_lt (by omega)).2
        · rw [if_neg gg] at y2'
          have ib := pxInn_b (s := s) (p := (pxPtn s ((pxWh s p).2.1 + 1)).2) (by omega) (by omega)
          have := ib.2.2 y2'
          omega
      have e119 : pyC1 s p S = S := by unfold pyC1; rw [if_neg (by omega)]
      unfold g_X12_emptyFiles_b42
      rw [pyN_rc H1, px_bs, show pxJ (pxWh s p).2.1 + (2 : Int32) = pxJ ((pxWh s p).2.1 + 2) from pxJ_add _ 2, show (47 : Int32) = pxJ 47 from rfl]
      refine pxW_b2 (n_compile (u := 47) (p := (pxWh s p).2.1 + 2) (by omega) H1 G1 (by omega) (by omega) K.2.2 (by omega)) fun _ h2 w => ?_
      obtain ⟨V2, C, e37⟩ := w
      have H2 := V2.s H1
      have V02 : pyV pyQem h h2 := V1'.trans (V2.mono (fun k f z => Or.inr (Or.inr z)))
      rw [pyN_gI H2, px_bs, e37, pyN_rc H2, px_bs, show pxJ (pxPat s ((pxWh s p).2.1 + 2)).2 + (1 : Int32) = pxJ (pxPtn s ((pxWh s p).2.1 + 1)).2 by rw [ep]; exact pxJ_add _ 1]
      refine pxW_b2 (n_emptyParts H2 (G.e V02) (Y1.keep V2 (fun k f z => by unfold pyQk; omega)) (by omega) z1 y2) fun _ h3 q => ?_
      exact rest h3 _ (V02.trans q.1) q.2 (by rw [e119, e2, y3])
    rw [pyN_gI H1, px_bs, Wh.2.2.2, pyN_g21 H1, px_bs, pyN_a599 H1 (by omega) (by omega), px_bs, m]
    by_cases c103 : pxAc s p = 103
    · rw [if_pos (show pxJ (pxAc s p) = (103 : Int32) by rw [c103]; rfl)]
      exact grp (Or.inl c103)
    rw [if_neg (show ¬ (pxJ (pxAc s p) = (103 : Int32)) from py32 (a := pxAc s p) (b := 103) c103 (by omega) (by omega) (by omega) (by omega)), px_bs, pyN_a599 H1 (by omega) (by omega), px_bs, m]
    by_cases c71 : pxAc s p = 71
    · rw [if_pos (show pxJ (pxAc s p) = (71 : Int32) by rw [c71]; rfl)]
      exact grp (Or.inr c71)
    rw [if_neg (show ¬ (pxJ (pxAc s p) = (71 : Int32)) from py32 (a := pxAc s p) (b := 71) c71 (by omega) (by omega) (by omega) (by omega)), px_bs, pyN_a599 H1 (by omega) (by omega), px_bs, m]
    by_cases c123 : pxAc s p = 123
    · obtain ⟨y1, y2⟩ := tp.2.2.2.1 c123
      have ep : pyPs s (pxWh s p).2.1 = pxBlk s 61 ((pxWh s p).2.1 + 1) := by unfold pyPs; rw [ea, if_pos c123]
      have e119 : pyC1 s p S = S := by unfold pyC1; rw [if_neg (by omega)]
      rw [if_pos (show pxJ (pxAc s p) = (123 : Int32) by rw [c123]; rfl), pyN_rc H1, px_bs]
      refine pxW_b2 (n_emptyParts H1 G1 Y1 (z := (pxWh s p).2.1) (by omega) apl (by rw [ep]; exact y1)) fun _ h3 q => ?_
      exact rest h3 _ (V1'.trans q.1) q.2 (by rw [e119, e2, y2, ep])
    rw [if_neg (show ¬ (pxJ (pxAc s p) = (123 : Int32)) from py32 (a := pxAc s p) (b := 123) c123 (by omega) (by omega) (by omega) (by omega)), pyN_rc H1, px_bs]
    have e0 : t.2 = [] := by
      rw [e2]
      exact vt.2.2.2.2 (fun z => by
        have z' : pxAc s p = 123 ∨ pxAc s p = 103 ∨ pxAc s p = 71 := z
        omega)
    refine pxW_b2 (n_emptyFile H1 G1 Y1 p0 (by omega) pn (fun _ => (tp.2.2.1 (fun z => by omega)).1)) fun _ h3 q => ?_
    exact rest h3 _ (V1'.trans q.1) q.2 (by rw [e0]; rfl)
theorem n_emptyFiles {h : jw_H} {s : List Int} {L : List (Int × List Int)} {S : pxSto} (H : pyS h) (G : pyG h s) (Y : pyY h S) (A : pyLs s 0 L) (ne : L ≠ []) (len : L.length ≤ 100) :
    pxW (f_X12_emptyFiles h 587) fun _ h' => pyV pyQem h h' ∧ pyY h' (pxBClr s (pxFl L 0) S) := by
  unfold f_X12_emptyFiles
  rw [show (0 : Int32) = pxJ 0 from rfl]
  exact n_emptyFiles_b2 L jw_FU h 0 0 S (by unfold jw_FU; omega) H G Y (by omega) (fun e => absurd e ne) (by omega) (fun _ => A)
/-- the new text takes the old one's place -/
def pyQbn : Nat → Nat → Prop := fun k f => (k = 592 ∧ f < 1240) ∨ (k = 593 ∧ f < 40) ∨ (k = 596 ∧ f < 5) ∨ (k = 587 ∧ (f = 12 ∨ f = 16))
set_option maxHeartbeats 8000000 in
theorem n_becomeNew_b49 {h0 : jw_H} {ls : pxLs} {mk : Int → Int} {nx : Int} (H0 : pyS h0) (L0 : pyL h0 ls) (M : pyMk h0 mk nx (pxIds ls)) : ∀ (d N : Nat) (h : jw_H) (k : Int), k + d = 5 → d < N → 0 ≤ k → pyV (fun a f => a = 596 ∧ f < 5) h0 h → (∀ j : Int, 0 ≤ j → j < k → pxM h 596 j.toNat = mk j) → (∀ j : Int, k ≤ j → j < 5 → pxM h 596 j.toNat = pxM h0 596 j.toNat) →
    pxW (f_X12_becomeNew_b49 N h 587 (pxJ k)) fun _ h' => pyV pyQbn h0 h' ∧ pyL h' ls ∧ pyK h' mk ∧ pxM h' 587 16 = ls.length := by
  obtain ⟨nd, bd, mm⟩ := M
  intro d
  induction d with
  | zero =>
    intro N h k hd hN k0 V A B
    obtain ⟨N, rfl, -⟩ := px_fu hN
    have H := V.s H0
    have L : pyL h ls := L0.keep V (fun f _ => by omega) (fun f _ => by omega) (by omega)
    have l40 := L.2.1
    rw [u_X12_becomeNew_b49]
    unfold g_X12_becomeNew_b49
    rw [if_pos (show (5 : Int32) ≤ pxJ k by rw [show k = 5 by omega]; decide), pyN_gI H, px_bs, L.1, pyN_pI H, px_bs]
    have V2 : pyV (fun a f => a = 587 ∧ f = 16) h (jw_setI h 587 16 (pxJ (ls.length : Int))) := pyV.rfl.set ⟨rfl, rfl⟩
    exact pxW_some.mpr ⟨(V.mono (fun a f z => by unfold pyQbn; omega)).trans (V2.mono (fun a f z => by unfold pyQbn; omega)), L.keep V2 (fun f _ => by omega) (fun f _ => by omega) (by omega), fun j j0 j5 => by rw [V2.m (by omega)]; exact A j j0 (by omega), by rw [pxM_eq (by omega) (by omega)]⟩
  | succ d ih =>
    intro N h k hd hN k0 V A B
    obtain ⟨N, rfl, hN⟩ := px_fu hN
    have H := V.s H0
    have L : pyL h ls := L0.keep V (fun f _ => by omega) (fun f _ => by omega) (by omega)
    have l40 := L.2.1
    have lo := pxM_lo h0 596 k.toNat
    have hi := pxM_hi h0 596 k.toNat
    obtain ⟨c1, c2⟩ := mm k k0 (by omega)
    have ek := B k (Int.le_refl _) (by omega)
    have next : ∀ w : Int, -2147483648 ≤ w → w ≤ 2147483647 → w = mk k → pxW (g_X12_becomeNew_b91 (f_X12_becomeNew_b49 N) h 587 (pxJ k) (some 596) (pxJ k) (pxJ w)) fun _ h' => pyV pyQbn h0 h' ∧ pyL h' ls ∧ pyK h' mk ∧ pxM h' 587 16 = ls.length := by
      intro w w0 w1 ew
      unfold g_X12_becomeNew_b91
      rw [pyN_s596 H k0 (by omega), px_bs, show pxJ k + (1 : Int32) = pxJ (k + 1) from pxJ_add _ 1]
      refine ih N (jw_setI h 596 k.toNat (pxJ w)) (k + 1) (by omega) (by omega) (by omega) (V.set ⟨rfl, by omega⟩) (fun j j0 j1 => ?_) (fun j j0 j1 => ?_)
      · by_cases e : j = k
        · rw [e, pxM_eq w0 w1, ew]
        · rw [pxM_ne (by omega)]; exact A j j0 (by omega)
      · rw [pxM_ne (by omega)]; exact B j (by omega) j1
    rw [u_X12_becomeNew_b49]
    unfold g_X12_becomeNew_b49
    rw [if_neg (show ¬ ((5 : Int32) ≤ pxJ k) from fun z => by have := (pxJ_le (a := 5) (b := k) (by omega) (by omega) (by omega) (by omega)).mp z; omega), pyN_g10 H, px_bs, px_bs, pyN_a596 H k0 (by omega), px_bs, ek]
    unfold g_X12_becomeNew_b90
    by_cases y : pxM h0 596 k.toNat < 0
    · rw [if_pos (show pxJ (pxM h0 596 k.toNat) < 0 from (pxJ_lt (a := pxM h0 596 k.toNat) (b := 0) lo hi (by omega) (by omega)).mpr y)]
      refine next (-1) (by omega) (by omega) ?_
      rw [c2, if_neg (fun z => by have := bd _ z; omega)]
    · rw [if_neg (show ¬ (pxJ (pxM h0 596 k.toNat) < 0) from fun z => y ((pxJ_lt (a := pxM h0 596 k.toNat) (b := 0) lo hi (by omega) (by omega)).mp z)), px_bs, pyN_a596 H k0 (by omega), px_bs, ek, pyN_rc H, px_bs, n_lineWith H L lo hi, px_b2]
      have no := pxNo_in ls (pxM h0 596 k.toNat)
      unfold pyNo
      by_cases z : pxNo ls (pxM h0 596 k.toNat) = -1
      · rw [if_pos z, if_pos (show pxJ 0 ≤ (0 : Int32) by decide)]
        refine next (-1) (by omega) (by omega) ?_
        rw [c2, if_neg (pxNo_mem.mp z)]
      · rw [if_neg z, if_neg (pyLe0 (z := pxNo ls (pxM h0 596 k.toNat)) (by omega) (by omega) (by omega)), pyN_g10 H, px_bs, pyN_a596 H k0 (by omega), px_bs, ek]
        refine next _ lo hi ?_
        by_cases w : pxM h0 596 k.toNat ∈ pxIds ls
        · rw [c2, if_pos w]
        · exact absurd (pxNo_mem.mpr w) z
set_option maxHeartbeats 8000000 in
theorem n_becomeNew {h : jw_H} {F : pxFh} (H : pyS h) (N0 : pyNw h F.1) (M : pyMk h F.2.1 F.2.2 (pxIds F.1)) (e17 : pxM h 587 17 = F.2.2) :
    pxW (f_X12_becomeNew h 587) fun _ h' => pyV pyQbn h h' ∧ pyX h' (F.1, F.2.1, (F.1.length : Int), F.2.2) := by
  obtain ⟨e13, l40, ok, A⟩ := N0
  have key : ∀ (d N : Nat) (h1 : jw_H) (k : Int), k + d = F.1.length → d < N → 0 ≤ k → pyV pyQbn h h1 → pxM h1 587 12 = F.1.length → (∀ j : Int, 0 ≤ j → j < 5 → pxM h1 596 j.toNat = pxM h 596 j.toNat) → (∀ x : Int, 1 ≤ x → x ≤ k → pyLn h1 (x - 1) (pxAt F.1 x)) → pxW (f_X12_becomeNew_b10 N h1 587 (pxJ k)) fun _ h' => pyV pyQbn h h' ∧ pyX h' (F.1, F.2.1, (F.1.length : Int), F.2.2) := by
    intro d
    induction d with
    | zero =>
      intro N h1 k hd hN k0 V e12 em R
      obtain ⟨N, rfl, -⟩ := px_fu hN
      have H1 := V.s H
      have f13 : pxM h1 587 13 = F.1.length := by rw [V.m (by unfold pyQbn; omega)]; exact e13
      have L1 : pyL h1 F.1 := ⟨e12, l40, ok, fun x x0 x1 => R x x0 (by omega)⟩
      have M1 : pyMk h1 F.2.1 F.2.2 (pxIds F.1) := ⟨M.1, M.2.1, fun j j0 j5 => by rw [em j j0 j5]; exact M.2.2 j j0 j5⟩
      rw [u_X12_becomeNew_b10]
      unfold g_X12_becomeNew_b10
      rw [pyN_gI H1, px_bs, f13, if_pos (show pxJ (F.1.length : Int) ≤ pxJ k from (pxJ_le (by omega) (by omega) (by omega) (by omega)).mpr (by omega)), show (0 : Int32) = pxJ 0 from rfl]
      refine pxW.mono (n_becomeNew_b49 H1 L1 M1 5 jw_FU h1 0 (by omega) (by unfold jw_FU; omega) (by omega) pyV.rfl (fun j j0 j1 => by omega) (fun j _ _ => rfl)) fun _ h' q => ?_
      obtain ⟨V2, L2, K2, e16⟩ := q
      exact ⟨V.trans V2, L2, K2, e16, by rw [V2.m (by unfold pyQbn; omega), V.m (by unfold pyQbn; omega)]; exact e17⟩
    | succ d ih =>
      intro N h1 k hd hN k0 V e12 em R
      obtain ⟨N, rfl, hN⟩ := px_fu hN
      have H1 := V.s H
      have f13 : pxM h1 587 13 = F.1.length := by rw [V.m (by unfold pyQbn; omega)]; exact e13
      obtain ⟨a, b⟩ := A (k + 1) (by omega) (by omega)
      have or := pyAt_or ok (k + 1)
      have a1 : pyR h1 (41 + k) (pxAt F.1 (k + 1)).2 := by
        rw [show (41 : Int) + k = 40 + (k + 1) by omega]
        exact a.keep V (by omega) or.1 (fun f _ _ => by unfold pyQbn; omega)
      have b1 : pxM h1 594 k.toNat = (pxAt F.1 (k + 1)).1 := by
        rw [show k + 1 - 1 = k by omega] at b
        rw [V.m (by unfold pyQbn; omega)]; exact b
      have lo := pxM_lo h1 594 k.toNat
      have hi := pxM_hi h1 594 k.toNat
      rw [b1] at lo hi
      rw [u_X12_becomeNew_b10]
      unfold g_X12_becomeNew_b10
      rw [pyN_gI H1, px_bs, f13, if_neg (show ¬ (pxJ (F.1.length : Int) ≤ pxJ k) from fun z => by have := (pxJ_le (a := (F.1.length : Int)) (b := k) (by omega) (by omega) (by omega) (by omega)).mp z; omega), pyN_rc H1, px_bs, show (41 : Int32) + pxJ k = pxJ (41 + k) from pxJ_add 41 _, show (0 : Int32) + pxJ k = pxJ (0 + k) from pxJ_add 0 _, show (0 : Int) + k = k by omega]
      refine pxW_b2 (n_copyRow H1 (a := 41 + k) (b := k) (by omega) (by omega) (by omega) (by omega) (by omega)) fun _ h2 q => ?_
      obtain ⟨V2, C2⟩ := q
      have H2 := V2.s H1
      have R2 := C2 _ or.1 a1
      rw [pyN_g7 H2, px_bs, pyN_g8 H2, px_bs, pyN_a594 H2 (by omega) (by omega), px_bs, V2.m (by unfold pyQR; omega), b1, pyN_s593 H2 (by omega) (by omega), px_bs, show pxJ k + (1 : Int32) = pxJ (k + 1) from pxJ_add _ 1]
      have V3 : pyV (fun z f => z = 593 ∧ (f : Int) = k) h2 (jw_setI h2 593 k.toNat (pxJ (pxAt F.1 (k + 1)).1)) := pyV.rfl.set ⟨rfl, by omega⟩
      have g593 : pxM (jw_setI h2 593 k.toNat (pxJ (pxAt F.1 (k + 1)).1)) 593 k.toNat = (pxAt F.1 (k + 1)).1 := by rw [pxM_eq lo hi]
      generalize jw_setI h2 593 k.toNat (pxJ (pxAt F.1 (k + 1)).1) = h3 at *
      refine ih N h3 (k + 1) (by omega) (by omega) (by omega) ((V.trans (V2.mono (fun z f y => by unfold pyQR at y; unfold pyQbn; omega))).trans (V3.mono (fun z f y => by unfold pyQbn; omega))) ?_ (fun j j0 j5 => ?_) (fun x x0 x1 => ?_)
      · rw [V3.m (by omega), V2.m (by unfold pyQR; omega)]; exact e12
      · rw [V3.m (by omega), V2.m (by unfold pyQR; omega)]; exact em j j0 j5
      · by_cases e : x = k + 1
        · rw [e, show k + 1 - 1 = k by omega]
          exact ⟨R2.keep V3 k0 or.1 (fun f _ _ => by omega), g593⟩
        · have l30 := (pyAt_or ok x).1
          exact ((R x x0 (by omega)).keep V2 (by omega) l30 (fun f _ _ => by unfold pyQR; omega) (by unfold pyQR; omega)).keep V3 (by omega) l30 (fun f _ _ => by omega) (by omega)
  unfold f_X12_becomeNew
  rw [pyN_gI H, px_bs, e13, pyN_pI H, px_bs, show (0 : Int32) = pxJ 0 from rfl]
  have V1 : pyV (fun a f => a = 587 ∧ f = 12) h (jw_setI h 587 12 (pxJ (F.1.length : Int))) := pyV.rfl.set ⟨rfl, rfl⟩
  exact key F.1.length jw_FU _ 0 (by omega) (by unfold jw_FU; omega) (by omega) (V1.mono (fun a f z => by unfold pyQbn; omega)) (by rw [pxM_eq (by omega) (by omega)]) (fun j j0 j5 => by rw [V1.m (by omega)]) (fun x x0 x1 => by omega)
