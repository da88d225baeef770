/-! the reference, line by line: an order that is come to, and orders in blocks -/
def pyQct : Nat → Nat → Prop := fun k f => pyQl k f ∨ pyQp k f ∨ (k = 587 ∧ f = 73)
theorem pyWh.keep {P : Nat → Nat → Prop} {h h1 : jw_H} {s : List Int} {p : Int} (Wh : pyWh s p h) (V : pyV P h h1) (n : ∀ f : Nat, 27 ≤ f → f ≤ 30 → ¬ P 587 f) : pyWh s p h1 :=
  ⟨by rw [V.m (n _ (by omega) (by omega))]; exact Wh.1, fun y => by rw [V.m (n _ (by omega) (by omega))]; exact Wh.2.1 y, fun y => by rw [V.m (n _ (by omega) (by omega))]; exact Wh.2.2.1 y, by rw [V.m (n _ (by omega) (by omega))]; exact Wh.2.2.2⟩
theorem n_comesTo {h : jw_H} {s : List Int} {q came : Int} (H : pyS h) (G : pyG h s) (e73 : pxM h 587 73 = came) (c0 : 0 ≤ came) (c1 : came ≤ 400) (q0 : 0 ≤ q) (q1 : q ≤ s.length) (ok : (pxWh s q).1 = true) (pn : pxAc s q ≠ -1) :
    pxW (f_X12_comesTo h 587 (pxJ q)) fun v h' => pyV pyQct h h' ∧ (400 ≤ came → v = pxJ 7) ∧ (came < 400 → v = pxJ (if pxBar s q = true then 8 else 0) ∧ pyWh s q h' ∧ pxM h' 587 73 = came + 1) := by
  unfold f_X12_comesTo
  rw [pyN_gI H, px_bs, e73]
  by_cases c : came = 400
  · rw [if_pos (show pxJ came = (400 : Int32) by rw [c]; rfl)]
    exact pxW_some.mpr ⟨pyV.rfl, fun _ => rfl, fun z => absurd z (by omega)⟩
  rw [if_neg (show ¬ (pxJ came = (400 : Int32)) from fun z => c ((pxJ_eq (a := came) (b := 400) (by omega) (by omega) (by omega) (by omega)).mp z)), px_bs, show pxJ came + (1 : Int32) = pxJ (came + 1) from pxJ_add _ 1, pyN_pI H, px_bs]
  have V1 : pyV (fun k f => k = 587 ∧ f = 73) h (jw_setI h 587 73 (pxJ (came + 1))) := pyV.rfl.set ⟨rfl, rfl⟩
  have f73 : pxM (jw_setI h 587 73 (pxJ (came + 1))) 587 73 = came + 1 := by rw [pxM_eq (by omega) (by omega)]
  generalize jw_setI h 587 73 (pxJ (came + 1)) = h1 at *
  have H1 := V1.s H
  have G1 : pyG h1 s := G.keep V1 (by omega) (fun f _ => by omega)
  rw [pyN_rc H1, px_bs]
  refine pxW_b2 (n_readWhere H1 G1 q0 q1 ok) fun _ h2 w => ?_
  obtain ⟨V2, Wh⟩ := w
  have H2 := V2.s H1
  rw [pyN_rc H2, px_bs]
  refine pxW_b2 (n_isBarred H2 (G1.p V2) Wh q0 q1 ok pn) fun v h3 w => ?_
  obtain ⟨V3, rfl⟩ := w
  have V : pyV pyQct h h3 := ((V1.mono (fun k f z => Or.inr (Or.inr z))).trans (V2.mono (fun k f z => Or.inr (Or.inl z)))).trans (V3.mono (fun k f z => Or.inl z))
  have Wh3 := Wh.keep V3 (fun f _ _ => by unfold pyQl; omega)
  have g73 : pxM h3 587 73 = came + 1 := by rw [V3.m (by unfold pyQl; omega), V2.m (by unfold pyQp; omega)]; exact f73
  unfold g_X12_comesTo_b41
  by_cases d : pxBar s q = true
  · rw [if_pos d, if_neg (show ¬ (pxJ 1 = 0) by decide), if_pos d]
    exact pxW_some.mpr ⟨V, fun z => absurd z (by omega), fun _ => ⟨rfl, Wh3, g73⟩⟩
  · rw [if_neg d, if_pos (show pxJ 0 = 0 from rfl), if_neg d]
    exact pxW_some.mpr ⟨V, fun z => absurd z (by omega), fun _ => ⟨rfl, Wh3, g73⟩⟩
/-- what is noted with all orders -/
def pyRu (h : jw_H) (L : List (Int × List Int)) (G : Nat → pxFg) : Prop := ∀ (k : Nat) (e : Int × Nat), (pxFl L 0)[k]? = some e → pyRn h e.1 (G k)
def pyQru : Nat → Nat → Prop := fun k _ => k = 614 ∨ k = 615 ∨ k = 616
theorem pyRu.keep {P : Nat → Nat → Prop} {h h1 : jw_H} {L : List (Int × List Int)} {G : Nat → pxFg} (R : pyRu h L G) (V : pyV P h h1) (n : ∀ k f, pyQru k f → ¬ P k f) : pyRu h1 L G := by
  intro k e he
  obtain ⟨a, b, c, d⟩ := R k e he
  exact ⟨by rw [V.m (n _ _ (by unfold pyQru; omega))]; exact a, fun y => by rw [V.m (n _ _ (by unfold pyQru; omega))]; exact b y, by rw [V.m (n _ _ (by unfold pyQru; omega))]; exact c, d⟩
/-- the state in which orders are done with a line -/
def pyWo (h : jw_H) (s : List Int) (T : pxTx) (L : List (Int × List Int)) (came : Int) (G : Nat → pxFg) (β : pxBe) : Prop :=
  pyWs h s T came β.1 β.2.1 β.2.2.1 β.2.2.2 ∧ pxM h 587 73 = came ∧ 0 ≤ came ∧ came ≤ 400 ∧ pyRu h L G ∧ pxM h 587 71 = 0
theorem pyWo.keep {P : Nat → Nat → Prop} {h h1 : jw_H} {s : List Int} {T : pxTx} {L : List (Int × List Int)} {came : Int} {G : Nat → pxFg} {β : pxBe} (A : pyWo h s T L came G β) (V : pyV P h h1) (n : ∀ k f, pyQWs k f ∨ pyQru k f ∨ (k = 587 ∧ (f = 71 ∨ f = 73)) → ¬ P k f) : pyWo h1 s T L came G β := by
  obtain ⟨a, b, c, d, e, f⟩ := A
  exact ⟨a.keep V (Int.le_refl _) (fun k f z => n _ _ (Or.inl z)), by rw [V.m (n _ _ (by omega))]; exact b, c, d, e.keep V (fun k f z => n _ _ (Or.inr (Or.inl z))), by rw [V.m (n _ _ (by omega))]; exact f⟩
/-- what orders come to: X is what the loop comes to, K where it goes on -/
def pyOC (c0 : Int) (s : List Int) (T : pxTx) (L : List (Int × List Int)) (X : Int × Int × pxFh × pxSto) (K : Nat) (v : Int32) (h' : jw_H) : Prop :=
  (∃ r, v = pxJ r ∧ 1 ≤ r ∧ r ≤ 10 ∧ X.2.1 = r) ∨
  (v = pxJ 0 ∧ ∃ m K' came' G' β', c0 ≤ came' ∧ X = pxBLoop s L T m K' false false came' G' β' ∧ (400 - came') + (T.1.length - β'.1.2.2.2.1) < m ∧ pyWo h' s T L came' G' β' ∧ (β'.1.2.2.2.2.1 = false → K' = K) ∧ (β'.1.2.2.2.2.1 = true → K' = pxCnt L))
theorem pyOC.lo {c0 c1 : Int} {s : List Int} {T : pxTx} {L : List (Int × List Int)} {X : Int × Int × pxFh × pxSto} {K : Nat} {v : Int32} {h' : jw_H} (O : pyOC c1 s T L X K v h') (cc : c0 ≤ c1) : pyOC c0 s T L X K v h' := by
  rcases O with O | ⟨rv, m, K', came', G', β', cm, r⟩
  · exact Or.inl O
  · exact Or.inr ⟨rv, m, K', came', G', β', by omega, r⟩
def pyQwi : Nat → Nat → Prop := fun k f => pyQct k f ∨ pyQwa k f ∨ pyQru k f
set_option maxHeartbeats 8000000 in
theorem n_act_w {h : jw_H} {s : List Int} {T : pxTx} {L : List (Int × List Int)} {came q : Int} {G : Nat → pxFg} {β : pxBe} {m K nx : Nat} {X : Int × Int × pxFh × pxSto} {g' : pxFg} (A : pyWs h s T came β.1 β.2.1 β.2.2.1 β.2.2.2) (e73 : pxM h 587 73 = came + 1) (c0 : 0 ≤ came) (c1 : came < 400) (R : pyRu h L (pxBSet G K g')) (e71 : pxM h 587 71 = 0) (g : β.1.2.2.2.2.1 = false) (eK : (pxFl L 0)[K]? = some (q, nx)) (Wh : pyWh s q h) (held : g'.2.1 = true ∨ (pxWh s q).2.2.1 ≠ 3) (q0 : 0 ≤ q) (q1 : q < s.length) (aok : (pxAct s (pxWh s q).2.1).1 = true) (ns : ¬ pxSteer (pxAc s q) = true) (nb : ¬ pxBar s q = true) (n48 : pxP s (pxAct s (pxWh s q).2.1).2 ≠ 48)
    (eX : X = if (pxBAct s (pxWh s q).2.1 (pxWh s q).2.2.1 g'.2.2.1 T β.1 β.2.1 β.2.2.1 β.2.2.2).1 ≠ 0 then (came + 1, (pxBAct s (pxWh s q).2.1 (pxWh s q).2.2.1 g'.2.2.1 T β.1 β.2.1 β.2.2.1 β.2.2.2).1, β.2.1, β.2.2.1) else pxBLoop s L T m (if (pxBAct s (pxWh s q).2.1 (pxWh s q).2.2.1 g'.2.2.1 T β.1 β.2.1 β.2.2.1 β.2.2.2).2.1.2.2.2.2.1 = true then pxCnt L else nx) false false (came + 1) (pxBSet G K g') (pxBAct s (pxWh s q).2.1 (pxWh s q).2.2.1 g'.2.2.1 T β.1 β.2.1 β.2.2.1 β.2.2.2).2)
    (tn : (pxBAct s (pxWh s q).2.1 (pxWh s q).2.2.1 g'.2.2.1 T β.1 β.2.1 β.2.2.1 β.2.2.2).2.1.2.2.2.1 = β.1.2.2.2.1) (fu : (400 - came) + (T.1.length - β.1.2.2.2.1) < m + 1) :
    pxW (f_X12_workAct h 587 (pxJ q) (pxJ (pxWh s q).2.1)) fun v h' => pyV pyQwa h h' ∧ pyOC (came + 1) s T L X nx v h' := by
  have G0 := A.2.1
  have l60 := G0.2.1.1
  have wb := pxWh_b (s := s) q0 (by omega)
  have Rq := R K (q, nx) eK
  have eS : pxBSet G K g' K = g' := by unfold pxBSet; rw [if_pos rfl]
  rw [eS] at Rq
  obtain ⟨r1, r2, r3, r4⟩ := Rq
  have ea : pxP s (pxWh s q).2.1 = pxAc s q := rfl
  have nbar : ¬ (pxAc s q = 108 ∨ pxAc s q = 111 ∨ pxAc s q = 79 ∨ pxAc s q = 109 ∨ pxAc s q = 116) := fun z => nb (by unfold pxBar; rw [decide_eq_true z]; rfl)
  refine pxW.mono (n_workAct (r := g'.1) (over := g'.2.2.1) A g c0 (by omega) Wh.1 (by omega) (by omega) q0 (by omega) r1 (fun k3 => r4 (held.elim id (fun z => absurd k3 z))) (by omega) aok (fun z => by rw [← pyAct_115 z]; exact n48) (fun z => ns (by rw [pxSteer_i]; exact z)) nbar) fun v h' w => ?_
  obtain ⟨V, rv, r0, r10, R1⟩ := w
  generalize pxBAct s (pxWh s q).2.1 (pxWh s q).2.2.1 g'.2.2.1 T β.1 β.2.1 β.2.2.1 β.2.2.2 = RA at *
  refine ⟨V, ?_⟩
  by_cases z : RA.1 = 0
  · rw [if_neg (fun y => y z)] at eX
    right
    refine ⟨by rw [rv, z], m, _, came + 1, _, RA.2, Int.le_refl _, eX, ?_, ⟨R1 z, ?_, by omega, by omega, R.keep V (fun k f z => by unfold pyQru at z; unfold pyQwa; omega), ?_⟩, fun y => ?_, fun y => ?_⟩
    · rw [tn]; omega
    · rw [V.m (by unfold pyQwa; omega)]; exact e73
    · rw [V.m (by unfold pyQwa; omega)]; exact e71
    · rw [y, if_neg (by decide)]
    · rw [y, if_pos rfl]
  · rw [if_pos z] at eX
    left
    exact ⟨RA.1, rv, by omega, r10, by rw [eX]⟩
theorem pyRu.set {h h1 : jw_H} {s : List Int} {L : List (Int × List Int)} {G : Nat → pxFg} {K : Nat} {e : Int × Nat} {g' : pxFg} (A : pyLs s 0 L) (R : pyRu h L G) (eK : (pxFl L 0)[K]? = some e) (V : pyV (pyQrn e.1) h h1) (q0 : 0 ≤ e.1) (Rn : pyRn h1 e.1 g') : pyRu h1 L (pxBSet G K g') := by
  intro k e' he
  by_cases d : k = K
  · rw [d] at he ⊢
    rw [eK] at he
    cases he
    have eS : pxBSet G K g' K = g' := by unfold pxBSet; rw [if_pos rfl]
    rw [eS]
    exact Rn
  · have ne := pyFl_ne A he eK d
    have inc := pyFl_inc L 0 0 A
    have m : ((pxFl L 0).map Prod.fst)[k]? = some e'.1 := by rw [List.getElem?_map, he]; rfl
    have q' := (inc.at m).1
    have eS : pxBSet G K g' k = G k := by unfold pxBSet; rw [if_neg d]
    rw [eS]
    obtain ⟨a, b, c, dd⟩ := R k e' he
    exact ⟨by rw [V.m (by unfold pyQrn pyQl; omega)]; exact a, fun y => by rw [V.m (by unfold pyQrn pyQl; omega)]; exact b y, by rw [V.m (by unfold pyQrn pyQl; omega)]; exact c, dd⟩
theorem pyHold_3 {s : List Int} {p n : Int} {W : pxWk} {F : pxFh} {g : pxFg} (k3 : (pxWh s p).2.2.1 = 3) : (pxBHold s p n W F g).1 = (pxBHold s p n W F g).2.2.1 := by
  unfold pxBHold
  rw [if_neg (by omega), if_neg (by omega)]
  by_cases a : g.2.2.2 = W.2.2.2.1
  · rw [if_pos a]
  · rw [if_neg a]
    by_cases b : g.1 = true ∧ ¬ (pxBIs s (pxWh s p).2.2.2 = true ∧ pxBNum s (pxWh s p).2.2.2 n < W.2.1)
    · rw [if_pos b]
    · rw [if_neg b]
set_option maxHeartbeats 8000000 in
theorem n_workInner {h : jw_H} {s : List Int} {T : pxTx} {L : List (Int × List Int)} {came q : Int} {G : Nat → pxFg} {β : pxBe} {m K : Nat} {X : Int × Int × pxFh × pxSto} (A : pyLs s 0 L) (W : pyWo h s T L came G β) (g : β.1.2.2.2.2.1 = false) (q0 : 0 ≤ q) (q1 : q < s.length) (ok : (pxInn s q).1 = true) (n48 : pxP s (pxInn s q).2 ≠ 48) (eK : (pxFl L 0)[K]? = some (q, K + 1)) (eX : X = pxBLoop s L T m K false false came G β) (fu : (400 - came) + (T.1.length - β.1.2.2.2.1) < m) :
    pxW (f_X12_workInner h 587 (pxJ q)) fun v h' => pyV pyQwi h h' ∧ pyOC (came + 1) s T L X (K + 1) v h' := by
  obtain ⟨Ws, e73, ca0, ca1, Ru, e71⟩ := W
  have tnb := Ws.2.2.2.2.2.2.1.2.2.2.2.2.2.2.2
  obtain ⟨m, rfl⟩ : ∃ m', m = m' + 1 := ⟨m - 1, by omega⟩
  have H := Ws.1
  have Gs := Ws.2.1
  have l60 := Gs.2.1.1
  obtain ⟨wok, ns, aok, ea⟩ := pyInn_a ok
  have wb := pxWh_b (s := s) q0 (by omega)
  have ns' : ¬ pxSteer (pxAc s q) = true := ns
  have n3 := pyAct_3 aok
  have pn : pxAc s q ≠ -1 := by
    intro z
    have aok' := aok
    unfold pxAc at z
    unfold pxAct at aok'
    rw [z] at aok'
    have aok2 : (false, (pxWh s q).2.1).1 = true := aok'
    cases aok2
  have eL := pyLoop_s (s := s) (T := T) (m := m) (came := came) (G := G) (β := β) eK _ rfl
  rw [← eX] at eL
  have tO := pxBOrd_t (s := s) (L := L) (T := T) (k := K) (q := q) (nx := K + 1) (came := came) (G := G) (W := β.1) (Fr := β.2.1) (S := β.2.2.1) (rep := β.2.2.2)
  unfold f_X12_workInner g_X12_workInner_b35
  rw [pyN_rc H, px_bs]
  refine pxW_b2 (n_comesTo H Gs e73 ca0 ca1 q0 (by omega) wok pn) fun v h1 w => ?_
  obtain ⟨V1, w7, w8⟩ := w
  have V1' : pyV pyQwi h h1 := V1.mono (fun k f z => Or.inl z)
  have H1 := V1.s H
  by_cases c400 : 400 ≤ came
  · have eO : pxBOrd s L T K q (K + 1) came G β.1 β.2.1 β.2.2.1 β.2.2.2 = (7, K, false, false, G, β.1, β.2.1, β.2.2.1, β.2.2.2) := by unfold pxBOrd; rw [if_pos (by omega)]
    rw [eO] at eL
    rw [if_pos (show ((7, K, false, false, G, β.1, β.2.1, β.2.2.1, β.2.2.2) : Int × pxBq).1 ≠ 0 from fun z => absurd z (by show ¬ (7 : Int) = 0; decide))] at eL
    rw [w7 c400, if_neg (show ¬ (pxJ 7 ≤ (0 : Int32)) by decide)]
    exact pxW_some.mpr ⟨V1', Or.inl ⟨7, rfl, by omega, by omega, by rw [eL]⟩⟩
  obtain ⟨rv, Wh, f73⟩ := w8 (by omega)
  by_cases cb : pxBar s q = true
  · have eO : pxBOrd s L T K q (K + 1) came G β.1 β.2.1 β.2.2.1 β.2.2.2 = (8, K, false, false, G, β.1, β.2.1, β.2.2.1, β.2.2.2) := by unfold pxBOrd; rw [if_neg (by omega), if_pos cb]
    rw [eO] at eL
    rw [if_pos (show ((8, K, false, false, G, β.1, β.2.1, β.2.2.1, β.2.2.2) : Int × pxBq).1 ≠ 0 from fun z => absurd z (by show ¬ (8 : Int) = 0; decide))] at eL
    rw [rv, if_pos cb, if_neg (show ¬ (pxJ 8 ≤ (0 : Int32)) by decide)]
    exact pxW_some.mpr ⟨V1', Or.inl ⟨8, rfl, by omega, by omega, by rw [eL]⟩⟩
  rw [if_neg cb] at rv
  rw [rv, if_pos (show pxJ 0 ≤ (0 : Int32) by decide), pyN_gI H1, px_bs, Wh.2.2.2, pyN_rc H1, px_bs]
  have W1 : pyWs h1 s T came β.1 β.2.1 β.2.2.1 β.2.2.2 := Ws.keep V1 (Int.le_refl _) (fun k f z => by unfold pyQWs at z; unfold pyQct pyQl pyQp; omega)
  have Ru1 : pyRu h1 L G := Ru.keep V1 (fun k f z => by unfold pyQru at z; unfold pyQct pyQl pyQp; omega)
  have f71 : pxM h1 587 71 = 0 := by rw [V1.m (by unfold pyQct pyQl pyQp; omega)]; exact e71
  refine pxW_b2 (n_whereHolds W1 g Wh wok q0 q1 (Ru1 K (q, K + 1) eK)) fun v h2 w => ?_
  obtain ⟨V2, rfl, Rn2⟩ := w
  have H2 := V2.s H1
  have V2' : pyV pyQwi h h2 := V1'.trans (V2.mono (fun k f z => z.elim (fun a => Or.inl (Or.inl a)) (fun b => Or.inr (Or.inr (by unfold pyQru; omega)))))
  have W2 : pyWs h2 s T came β.1 β.2.1 β.2.2.1 β.2.2.2 := W1.keep V2 (Int.le_refl _) (fun k f z => by unfold pyQWs at z; unfold pyQrn pyQl; omega)
  have Ru2 : pyRu h2 L (pxBSet G K (pxBHold s q T.1.length β.1 β.2.1 (G K)).2) := Ru1.set A eK V2 q0 Rn2
  have g71 : pxM h2 587 71 = 0 := by rw [V2.m (by unfold pyQrn pyQl; omega)]; exact f71
  have g73 : pxM h2 587 73 = came + 1 := by rw [V2.m (by unfold pyQrn pyQl; omega)]; exact f73
  have Wh2 := Wh.keep V2 (fun f _ _ => by unfold pyQrn pyQl; omega)
  have h3 := pyHold_3 (s := s) (p := q) (n := T.1.length) (W := β.1) (F := β.2.1) (g := G K)
  cases hd : (pxBHold s q T.1.length β.1 β.2.1 (G K)).1 with
  | false =>
    have eO : pxBOrd s L T K q (K + 1) came G β.1 β.2.1 β.2.2.1 β.2.2.2 = (0, K + 1, false, false, pxBSet G K (pxBHold s q T.1.length β.1 β.2.1 (G K)).2, β.1, β.2.1, β.2.2.1, β.2.2.2) := by unfold pxBOrd; rw [if_neg (by omega), if_neg cb, if_pos hd]
    rw [eO] at eL
    rw [if_neg (fun z => z rfl)] at eL
    rw [if_pos (show pxJ (pyB false) = 0 from rfl), show (0 : Int32) = pxJ 0 from rfl]
    refine pxW_some.mpr ⟨V2', Or.inr ⟨rfl, m, K + 1, came + 1, _, β, Int.le_refl _, eL, by omega, ⟨W2.keep (P := fun _ _ => False) pyV.rfl (by omega) (fun _ _ _ z => z), g73, by omega, by omega, Ru2, g71⟩, fun _ => rfl, fun z => by rw [g] at z; cases z⟩⟩
  | true =>
    have eO : pxBOrd s L T K q (K + 1) came G β.1 β.2.1 β.2.2.1 β.2.2.2 = ((pxBAct s (pxWh s q).2.1 (pxWh s q).2.2.1 (pxBHold s q T.1.length β.1 β.2.1 (G K)).2.2.2.1 T β.1 β.2.1 β.2.2.1 β.2.2.2).1, if (pxBAct s (pxWh s q).2.1 (pxWh s q).2.2.1 (pxBHold s q T.1.length β.1 β.2.1 (G K)).2.2.2.1 T β.1 β.2.1 β.2.2.1 β.2.2.2).2.1.2.2.2.2.1 = true then pxCnt L else K + 1, false, false, pxBSet G K (pxBHold s q T.1.length β.1 β.2.1 (G K)).2, (pxBAct s (pxWh s q).2.1 (pxWh s q).2.2.1 (pxBHold s q T.1.length β.1 β.2.1 (G K)).2.2.2.1 T β.1 β.2.1 β.2.2.1 β.2.2.2).2) := by
      unfold pxBOrd
      rw [if_neg (by omega), if_neg cb, if_neg (show ¬ (pxBHold s q T.1.length β.1 β.2.1 (G K)).1 = false by rw [hd]; decide), if_neg (show ¬ (pxAc s q = 103 ∨ pxAc s q = 71 ∨ pxAc s q = 123) from fun z => n3 (by unfold pxAc at z; omega)), if_neg ns']
    rw [eO] at eL tO
    rw [if_neg (show ¬ (pxJ (pyB true) = 0) by decide), pyN_rc H2, px_bs]
    refine pxW_b2 (n_act_w (X := X) W2 g73 ca0 (by omega) Ru2 g71 g eK Wh2 ?_ q0 q1 aok ns' cb (by rw [← ea]; exact n48) eL tO fu) fun v h4 w => pxW_some.mpr ⟨V2'.trans (w.1.mono (fun k f z => Or.inr (Or.inl z))), w.2⟩
    by_cases k3 : (pxWh s q).2.2.1 = 3
    · left; rw [← h3 k3]; exact hd
    · right; exact k3
set_option maxHeartbeats 8000000 in
theorem n_workParts_b23 {s : List Int} {T : pxTx} {L : List (Int × List Int)} (A : pyLs s 0 L) : ∀ (b N : Nat) (h : jw_H) (p came : Int) (G : Nat → pxFg) (β : pxBe) (m K : Nat) (X : Int × Int × pxFh × pxSto), b < N → b ≤ 61 → pyWo h s T L came G β → β.1.2.2.2.2.1 = false → 0 ≤ p → p ≤ s.length → (pxBlk s b p).1 = true → (∀ (i : Nat) (q : Int), (pxBlk s b p).2.2[i]? = some q → (pxFl L 0)[K + i]? = some (q, K + i + 1)) → X = pxBLoop s L T m K false false came G β → (400 - came) + (T.1.length - β.1.2.2.2.1) < m →
    pxW (f_X12_workParts_b23 N h 587 (pxJ p) (pxJ 1)) fun v h' => pyV pyQwi h h' ∧ pyOC came s T L X (K + (pxBlk s b p).2.2.length) v h' := by
  intro b
  induction b with
  | zero => intro N h p came G β m K X hN b61 W g p0 p1 ok; cases ok
  | succ b ih =>
    intro N h p came G β m K X hN b61 W g p0 p1 ok fl eX fu
    obtain ⟨N, rfl, hN⟩ := px_fu hN
    have W0 := W
    have H := W.1.1
    have Gs := W.1.2.1
    have l60 := Gs.2.1.1
    have w70 : pxM h 587 70 = pyB (!β.1.2.2.2.2.1) := W.1.2.2.2.2.2.2.1.2.2.2.2.2.2.2.1
    have ib := pxInn_b (s := s) p0 p1
    have eB : pxBlk s (b + 1) p = (if (pxInn s p).1 = true then (if pxP s (pxInn s p).2 = 59 then ((pxBlk s b ((pxInn s p).2 + 1)).1, (pxBlk s b ((pxInn s p).2 + 1)).2.1, p :: (pxBlk s b ((pxInn s p).2 + 1)).2.2) else if pxP s (pxInn s p).2 = 125 then (true, (pxInn s p).2 + 1, [p]) else (false, (pxInn s p).2, [])) else (false, (pxInn s p).2, [])) := rfl
    have iok : (pxInn s p).1 = true := by
      by_cases z : (pxInn s p).1 = true
      · exact z
      · rw [eB, if_neg z] at ok; cases ok
    rw [eB, if_pos iok] at ok fl ⊢
    have ib2 := ib.2.2 iok
    have en : pxP s (pxInn s p).2 = 59 ∨ pxP s (pxInn s p).2 = 125 := by
      by_cases y : pxP s (pxInn s p).2 = 59
      · exact Or.inl y
      · by_cases y2 : pxP s (pxInn s p).2 = 125
        · exact Or.inr y2
        · rw [if_neg y, if_neg y2] at ok; cases ok
    have pl := (pxP_lt (s := s) (p := (pxInn s p).2) (by omega)).2
    have fl0 : (pxFl L 0)[K]? = some (p, K + 1) := by
      have := fl 0 p (by
        by_cases y : pxP s (pxInn s p).2 = 59
        · rw [if_pos y]; rfl
        · rw [if_neg y, if_pos (by omega)]; rfl)
      exact this
    rw [u_X12_workParts_b23]
    unfold g_X12_workParts_b23
    rw [if_neg (show ¬ (pxJ 1 = 0) by decide), pyN_gI H, px_bs, w70, g, if_neg (show ¬ (pxJ (pyB (!false)) = 0) by decide), pyN_rc H, px_bs]
    refine pxW_b2 (n_workInner A W0 g p0 (by omega) iok (by omega) fl0 eX fu) fun v h1 q => ?_
    obtain ⟨V1, q⟩ := q
    rcases q with ⟨r, rfl, r1, r10, eXr⟩ | ⟨rfl, m', K', came', G', β', cm, eX', fu', W1, kF, kT⟩
    · rw [if_neg (pyLe0 (z := r) (by omega) (by omega) (by omega))]
      exact pxW_some.mpr ⟨V1, Or.inl ⟨r, rfl, r1, r10, eXr⟩⟩
    · have H1 := W1.1.1
      rw [if_pos (show pxJ 0 ≤ (0 : Int32) by decide), pyN_rc H1, px_bs, show (1 : Int32) = pxJ 1 from rfl]
      refine pxW_b2 (n_endOf1 H1 W1.1.2.1 p0 p1 iok) fun v h2 q => ?_
      obtain ⟨rfl, V2⟩ := q
      have W2 : pyWo h2 s T L came' G' β' := W1.keep V2 (fun k f z => by unfold pyQWs pyQru at z; unfold pyQp; omega)
      have H2 := W2.1.1
      have V2' : pyV pyQwi h h2 := V1.trans (V2.mono (fun k f z => Or.inl (Or.inr (Or.inl z))))
      have m2 := W2.1.2.1.2.2 (pxInn s p).2 (by omega) pl
      rw [← pxP_E (by omega) pl] at m2
      rw [pyN_g21 H2, px_bs, pyN_a599 H2 (by omega) (by omega), px_bs, m2]
      have w70' : pxM h2 587 70 = pyB (!β'.1.2.2.2.2.1) := W2.1.2.2.2.2.2.2.1.2.2.2.2.2.2.2.1
      -- with no line left the block ends
      have gone : ∀ (KK : Nat) (more : Int), (more = 0 ∨ more = 1) → β'.1.2.2.2.2.1 = true → pxW (g_X12_workParts_b72 (f_X12_workParts_b23 N) h2 587 (pxJ (pxInn s p).2) (pxJ more)) fun v h' => pyV pyQwi h h' ∧ pyOC came s T L X KK v h' := by
        intro KK more hm gt
        obtain ⟨N, rfl⟩ : ∃ N', N = N' + 1 := ⟨N - 1, by omega⟩
        have fin : pyV pyQwi h h2 ∧ pyOC came s T L X KK (pxJ 0) h2 := ⟨V2', Or.inr ⟨rfl, m', K', came', G', β', by omega, eX', fu', W2, fun z => (by rw [gt] at z; cases z), kT⟩⟩
        unfold g_X12_workParts_b72
        rw [u_X12_workParts_b23]
        unfold g_X12_workParts_b23
        rcases hm with hm | hm
        · rw [hm, if_pos (show pxJ 0 = 0 from rfl)]
          exact pxW_some.mpr fin
        · rw [hm, if_neg (show ¬ (pxJ 1 = 0) by decide), pyN_gI H2, px_bs, w70', gt, if_pos (show pxJ (pyB (!true)) = 0 from rfl)]
          exact pxW_some.mpr fin
      by_cases c59 : pxP s (pxInn s p).2 = 59
      · rw [if_pos c59] at ok fl ⊢
        rw [if_pos (show pxJ (pxP s (pxInn s p).2) = (59 : Int32) by rw [c59]; rfl)]
        cases gt : β'.1.2.2.2.2.1 with
        | true => exact gone _ 1 (Or.inr rfl) gt
        | false =>
          have kF' := kF gt
          rw [kF'] at eX'
          unfold g_X12_workParts_b72
          rw [show pxJ (pxInn s p).2 + (1 : Int32) = pxJ ((pxInn s p).2 + 1) from pxJ_add _ 1]
          refine pxW.mono (ih N h2 ((pxInn s p).2 + 1) came' G' β' m' (K + 1) X (by omega) (by omega) W2 gt (by omega) (by omega) ok (fun i q hq => ?_) eX' fu') fun v h' q => ?_
          · have := fl (i + 1) q hq
            rw [show K + 1 + i = K + (i + 1) by omega]
            exact this
          · refine ⟨V2'.trans q.1, ?_⟩
            show pyOC came s T L X (K + (p :: (pxBlk s b ((pxInn s p).2 + 1)).2.2).length) v h'
            rw [List.length_cons, show K + ((pxBlk s b ((pxInn s p).2 + 1)).2.2.length + 1) = K + 1 + (pxBlk s b ((pxInn s p).2 + 1)).2.2.length by omega]
            exact q.2.lo (by omega)
      · have c125 : pxP s (pxInn s p).2 = 125 := by omega
        rw [if_neg c59, if_pos c125]
        rw [if_neg (show ¬ (pxJ (pxP s (pxInn s p).2) = (59 : Int32)) from py32 (a := (pxP s (pxInn s p).2)) (b := 59) c59 (by omega) (by omega) (by omega) (by omega)), show (0 : Int32) = pxJ 0 from rfl]
        cases gt : β'.1.2.2.2.2.1 with
        | true => exact gone _ 0 (Or.inl rfl) gt
        | false =>
          have kF' := kF gt
          obtain ⟨N, rfl⟩ : ∃ N', N = N' + 1 := ⟨N - 1, by omega⟩
          unfold g_X12_workParts_b72
          rw [u_X12_workParts_b23]
          unfold g_X12_workParts_b23
          rw [if_pos (show pxJ 0 = 0 from rfl)]
          exact pxW_some.mpr ⟨V2', Or.inr ⟨rfl, m', K', came', G', β', by omega, eX', fu', W2, kF, kT⟩⟩
theorem n_workParts {h : jw_H} {s : List Int} {T : pxTx} {L : List (Int × List Int)} {z came : Int} {G : Nat → pxFg} {β : pxBe} {m K : Nat} {X : Int × Int × pxFh × pxSto} (A : pyLs s 0 L) (W : pyWo h s T L came G β) (g : β.1.2.2.2.2.1 = false) (z0 : 0 ≤ z) (z1 : z < s.length) (ok : (pyPs s z).1 = true) (n48 : pxP s (pyPs s z).2.1 ≠ 48) (fl : ∀ (i : Nat) (q : Int), (pyPs s z).2.2[i]? = some q → (pxFl L 0)[K + i]? = some (q, K + i + 1)) (eX : X = pxBLoop s L T m K false false came G β) (fu : (400 - came) + (T.1.length - β.1.2.2.2.1) < m) :
    pxW (f_X12_workParts h 587 (pxJ z)) fun v h' => pyV pyQwi h h' ∧ pyOC came s T L X (K + (pyPs s z).2.2.length) v h' := by
  have H := W.1.1
  have Gs := W.1.2.1
  have l60 := Gs.2.1.1
  have m0 := Gs.2.2 z z0 z1
  rw [← pxP_E z0 z1] at m0
  have pb := pyP_200 Gs.2.1 z
  unfold f_X12_workParts
  rw [pyN_g21 H, px_bs, pyN_a599 H z0 (by omega), px_bs, m0]
  unfold pyPs at ok n48 fl ⊢
  by_cases c : pxP s z = 123
  · rw [if_pos c] at ok n48 fl ⊢
    rw [if_pos (show pxJ (pxP s z) = (123 : Int32) by rw [c]; rfl), show pxJ z + (1 : Int32) = pxJ (z + 1) from pxJ_add _ 1, show (1 : Int32) = pxJ 1 from rfl]
    exact n_workParts_b23 A 61 jw_FU h (z + 1) came G β m K X (by unfold jw_FU; omega) (by omega) W g (by omega) (by omega) ok fl eX fu
  · rw [if_neg c] at ok n48 fl ⊢
    rw [if_neg (show ¬ (pxJ (pxP s z) = (123 : Int32)) from py32 c (by omega) (by omega) (by omega) (by omega)), pyN_rc H, px_bs]
    exact pxW_b2 (n_workInner A W g z0 z1 ok n48 (fl 0 z rfl) eX fu) fun v h1 q => pxW_some.mpr ⟨q.1, q.2.lo (by omega)⟩
