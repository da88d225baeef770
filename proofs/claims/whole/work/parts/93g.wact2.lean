/-! the reference, line by line: the acts, and all of them -/
section
variable {h : jw_H} {s : List Int} {T : pxTx} {c0 p : Int} {W : pxWk} {F : pxFh} {S : pxSto} {rep : Bool}
theorem pyWR_4 {h' : jw_H} {β : pxBe} : pyWR s T c0 (4, β) (pxJ 4) h' := ⟨rfl, py_4.1, py_4.2, fun z => absurd z (by show ¬ (4 : Int) = 0; decide)⟩
theorem pyWR_5 {h' : jw_H} {β : pxBe} : pyWR s T c0 (5, β) (pxJ 5) h' := ⟨rfl, py_5.1, py_5.2, fun z => absurd z (by show ¬ (5 : Int) = 0; decide)⟩
/- the work's number is told, or its row, or both -/
set_option maxHeartbeats 8000000 in
theorem n_tellWork {hn hr : Bool} (A : pyWs h s T c0 W F S rep) (b0 : 0 ≤ c0) (w : List Int) (ew : w = (if hn = true then pxDig W.2.1 else []) ++ ((if hn = true ∧ hr = true then [32] else []) ++ (if hr = true then W.2.2.2.2.2.1 else []))) (okw : w.length ≤ 30 → pxOr w) :
    pxW (f_X12_tellWork h 587 (pxJ (pyB hn)) (pxJ (pyB hr))) fun v h' => pyV pyQwa h h' ∧ pyWR s T (c0 + 1) (if w.length ≤ 30 ∧ S.2.1.length < 100 then (0, W, F, (S.1, S.2.1 ++ [w], S.2.2), rep) else (4, W, F, S, rep)) v h' := by
  have A0 := A
  obtain ⟨H, G, L, Y, N, M, Wf, D, e17, e44, B⟩ := A
  obtain ⟨R, okr, w65, w66, w67, w68, w69, w70, b1, -, -⟩ := Wf
  have l30 := okr.1
  have l40 := L.2.1
  have dl := pyDig_le (n := W.2.1)
  unfold f_X12_tellWork
  rw [show (0 : Int32) = pxJ 0 from rfl, pyN_pI H, px_bs]
  have V1 : pyV pyQm h (jw_setI h 587 20 (pxJ 0)) := pyV.rfl.set (Or.inl ⟨rfl, rfl⟩)
  have M1 : pyMd (jw_setI h 587 20 (pxJ 0)) [] := pyMd_0
  generalize jw_setI h 587 20 (pxJ 0) = h1 at *
  have H1 := V1.s H
  have b31 : ∀ (h2 : jw_H) (u : List Int), pyV pyQm h h2 → pyMd h2 u → u.length ≤ 10 → w = u ++ (if hr = true then W.2.2.2.2.2.1 else []) → pxW (g_X12_tellWork_b31 h2 587 (pxJ (pyB hr))) fun v h' => pyV pyQwa h h' ∧ pyWR s T (c0 + 1) (if w.length ≤ 30 ∧ S.2.1.length < 100 then (0, W, F, (S.1, S.2.1 ++ [w], S.2.2), rep) else (4, W, F, S, rep)) v h' := by
    intro h2 u V2 M2 lu eu
    unfold g_X12_tellWork_b31
    cases hr with
    | false =>
      rw [if_neg (show ¬ (false = true) by decide), List.append_nil] at eu
      rw [if_pos (show pxJ (pyB false) = 0 from rfl)]
      exact n_tellW A0 b0 V2 (by rw [eu]; exact M2) okw
    | true =>
      rw [if_pos rfl] at eu
      have H2 := V2.s H
      have R2 : pyR h2 429 W.2.2.2.2.2.1 := R.keep V2 (by omega) l30 (fun f _ _ => by unfold pyQm; omega)
      rw [if_neg (show ¬ (pxJ (pyB true) = 0) by decide), pyN_rc H2, px_bs, show (429 : Int32) = pxJ 429 from rfl, n_len H2 R2 (by omega) (by omega), px_b2, pyN_rc H2, px_bs, show (0 : Int32) = pxJ 0 from rfl]
      refine pxW_b2 (n_makesRow H2 R2 M2 (by omega) (by omega) l30 (show (0 : Int) ≤ 0 by omega) (by omega) (Int.le_refl _) (by omega)) fun _ h3 q => ?_
      obtain ⟨V3, M3⟩ := q
      rw [pxSl_all, ← eu] at M3
      exact n_tellW A0 b0 (V2.trans V3) M3 okw
  have b17 : ∀ (h2 : jw_H) (u : List Int), pyV pyQm h h2 → pyMd h2 u → u.length ≤ 2 → w = u ++ ((if hn = true ∧ hr = true then [32] else []) ++ (if hr = true then W.2.2.2.2.2.1 else [])) → pxW (g_X12_tellWork_b17 h2 587 (pxJ (pyB hn)) (pxJ (pyB hr))) fun v h' => pyV pyQwa h h' ∧ pyWR s T (c0 + 1) (if w.length ≤ 30 ∧ S.2.1.length < 100 then (0, W, F, (S.1, S.2.1 ++ [w], S.2.2), rep) else (4, W, F, S, rep)) v h' := by
    intro h2 u V2 M2 lu eu
    unfold g_X12_tellWork_b17
    cases hn with
    | false =>
      rw [if_neg (show ¬ (false = true ∧ hr = true) from fun z => by cases z.1), List.nil_append] at eu
      rw [if_pos (show pxJ (pyB false) = 0 from rfl)]
      exact b31 h2 u V2 M2 (by omega) eu
    | true =>
      rw [if_neg (show ¬ (pxJ (pyB true) = 0) by decide)]
      cases hr with
      | false =>
        rw [if_neg (show ¬ (true = true ∧ false = true) from fun z => by cases z.2), List.nil_append] at eu
        rw [if_pos (show pxJ (pyB false) = 0 from rfl)]
        exact b31 h2 u V2 M2 (by omega) eu
      | true =>
        rw [if_pos (show (true = true ∧ true = true) from ⟨rfl, rfl⟩), ← List.append_assoc] at eu
        have H2 := V2.s H
        rw [if_neg (show ¬ (pxJ (pyB true) = 0) by decide), pyN_rc H2, px_bs, show (32 : Int32) = pxJ 32 from rfl]
        refine pxW_b2 (n_makes H2 M2 (c := 32) (by omega) (by omega) (by omega)) fun _ h3 q => ?_
        obtain ⟨V3, M3⟩ := q
        exact b31 h3 (u ++ [32]) (V2.trans V3) M3 (by rw [List.length_append, List.length_singleton]; omega) eu
  cases hn with
  | false =>
    rw [if_neg (show ¬ (false = true) by decide)] at ew
    rw [if_pos (show pxJ (pyB false) = pxJ 0 from rfl)]
    exact b17 h1 [] V1 M1 (by simp) ew
  | true =>
    rw [if_pos rfl] at ew
    rw [if_neg (show ¬ (pxJ (pyB true) = pxJ 0) by decide), pyN_gI H1, px_bs, V1.m (by unfold pyQm; omega), w68, pyN_rc H1, px_bs]
    refine pxW_b2 (n_makesNumber H1 M1 (n := W.2.1) (by omega) (by omega) (by simp)) fun _ h2 q => ?_
    obtain ⟨V2, M2⟩ := q
    rw [List.nil_append] at M2
    exact b17 h2 (pxDig W.2.1) (V1.trans V2) M2 dl ew
set_option maxHeartbeats 8000000 in
theorem n_holdWork {k : Int} (A : pyWs h s T c0 W F S rep) (b0 : 0 ≤ c0) (ek : k = 0 ∨ k = S.1.length) :
    pxW (f_X12_holdWork h 587 (pxJ k)) fun v h' => pyV pyQwa h h' ∧ pyWR s T (c0 + 1) (if k < 40 then (0, W, F, (S.1.take k.toNat ++ [W.2.2.2.2.2.1], S.2.1, S.2.2), rep) else (4, W, F, S, rep)) v h' := by
  have A0 := A
  obtain ⟨H, G, L, Y, N, M, Wf, D, e17, e44, B⟩ := A
  obtain ⟨R, okr, -⟩ := Wf
  obtain ⟨IS, He, Ou, Fi⟩ := Y
  have l30 := okr.1
  have h40 := IS.1.1
  unfold f_X12_holdWork
  by_cases c : k < 40
  · rw [if_pos c, if_neg (show ¬ (pxJ k = (40 : Int32)) from py32 (a := k) (b := 40) (by omega) (by omega) (by omega) (by omega) (by omega)), pyN_rc H, px_bs, show (429 : Int32) = pxJ 429 from rfl, show (82 : Int32) + pxJ k = pxJ (82 + k) from pxJ_add 82 _]
    refine pxW_b2 (n_copyRow H (a := 429) (b := 82 + k) (by omega) (by omega) (by omega) (by omega) (by omega)) fun _ h1 q => ?_
    obtain ⟨V1, C1⟩ := q
    have H1 := V1.s H
    have R1 := C1 _ l30 R
    rw [show pxJ k + (1 : Int32) = pxJ (k + 1) from pxJ_add _ 1, pyN_pI H1, px_bs]
    have V2 : pyV (fun k f => k = 587 ∧ f = 14) h1 (jw_setI h1 587 14 (pxJ (k + 1))) := pyV.rfl.set ⟨rfl, rfl⟩
    have g14 : pxM (jw_setI h1 587 14 (pxJ (k + 1))) 587 14 = k + 1 := by rw [pxM_eq (by omega) (by omega)]
    generalize jw_setI h1 587 14 (pxJ (k + 1)) = h2 at *
    have V12 : pyV (fun a f => pyQR (82 + k) (82 + k) a f ∨ (a = 587 ∧ f = 14)) h h2 := (V1.mono (fun k f z => Or.inl z)).trans (V2.mono (fun k f z => Or.inr z))
    have tl : ((S.1.take k.toNat).length : Int) = k := by rw [List.length_take]; omega
    have okt : pxOk (S.1.take k.toNat) := pxOk_take IS.1.2
    have RT : pyRs h2 82 (S.1.take k.toNat) := by
      intro x x1 x2
      have e : pxRw (S.1.take k.toNat) x = pxRw S.1 x := by unfold pxRw; exact pxG_take x1 (by omega)
      rw [e]
      exact (He.2 x x1 (by omega)).keep V12 (by omega) (pxRw_or IS.1.2 x).1 (fun f _ _ => by unfold pyQR; omega)
    have R2 : pyR h2 (82 + ((S.1.take k.toNat).length : Int)) W.2.2.2.2.2.1 := by
      rw [tl]
      exact R1.keep V2 (by omega) l30 (fun f _ _ => by omega)
    refine pxW_some.mpr ⟨V12.mono (fun k f z => by unfold pyQR at z; unfold pyQwa; omega), rfl, py_0.1, py_0.2, fun _ => A0.sto (by omega) V12 (fun k f _ z => by unfold pyQR at z; omega) ⟨⟨⟨?_, ?_⟩, IS.2⟩, ⟨?_, RT.app R2⟩, Ou.keep IS.2.1.1 IS.2.1.2 V12 (fun f _ _ => by unfold pyQR; omega) (by unfold pyQR; omega), Fi.keep IS.2.2 V12 (fun f _ _ => by unfold pyQR; omega) (fun f _ => by unfold pyQR; omega)⟩⟩
    · show (S.1.take k.toNat ++ [W.2.2.2.2.2.1]).length ≤ 40
      rw [List.length_append, List.length_singleton]; omega
    · exact pxOk_app okt (pxOk_one okr)
    · show pxM h2 587 14 = ((S.1.take k.toNat ++ [W.2.2.2.2.2.1]).length : Int)
      rw [List.length_append, List.length_singleton, g14]; omega
  · rw [if_neg c, if_pos (show pxJ k = (40 : Int32) by rw [show k = 40 by omega]; rfl)]
    exact pxW_some.mpr ⟨pyV.rfl, pyWR_4⟩
set_option maxHeartbeats 8000000 in
theorem n_exchangeWork (A : pyWs h s T c0 W F S rep) (b0 : 0 ≤ c0) :
    pxW (f_X12_exchangeWork h 587) fun v h' => pyV pyQwa h h' ∧ pyWR s T (c0 + 1) (if S.1.length = 1 then (0, pxWr W (pxRw S.1 1), F, ([W.2.2.2.2.2.1], S.2.1, S.2.2), rep) else (5, W, F, S, rep)) v h' := by
  have A0 := A
  obtain ⟨H, G, L, Y, N, M, Wf, D, e17, e44, B⟩ := A
  obtain ⟨R, okr, -⟩ := Wf
  obtain ⟨IS, He, Ou, Fi⟩ := Y
  have l30 := okr.1
  have h40 := IS.1.1
  unfold f_X12_exchangeWork
  rw [pyN_gI H, px_bs, He.1]
  by_cases c : S.1.length = 1
  · have R0 := He.2 1 (by omega) (by omega)
    have ok1 := pxRw_or IS.1.2 1
    rw [show (82 : Int) + 1 - 1 = 82 by omega] at R0
    rw [if_pos c, if_pos (show pxJ (S.1.length : Int) = (1 : Int32) by rw [c]; rfl), pyN_rc H, px_bs, show (429 : Int32) = pxJ 429 from rfl, show (431 : Int32) = pxJ 431 from rfl, show (82 : Int32) = pxJ 82 from rfl]
    refine pxW_b2 (n_copyRow H (a := 429) (b := 431) (by omega) (by omega) (by omega) (by omega) (by omega)) fun _ h1 q => ?_
    obtain ⟨V1, C1⟩ := q
    have H1 := V1.s H
    have R1 := C1 _ l30 R
    rw [pyN_rc H1, px_bs]
    refine pxW_b2 (n_copyRow H1 (a := 82) (b := 429) (by omega) (by omega) (by omega) (by omega) (by omega)) fun _ h2 q => ?_
    obtain ⟨V2, C2⟩ := q
    have H2 := V2.s H1
    have R2 := C2 _ ok1.1 (R0.keep V1 (by omega) ok1.1 (fun f _ _ => by unfold pyQR; omega))
    have R1' : pyR h2 431 W.2.2.2.2.2.1 := R1.keep V2 (by omega) l30 (fun f _ _ => by unfold pyQR; omega)
    rw [pyN_rc H2, px_bs]
    refine pxW_b2 (n_copyRow H2 (a := 431) (b := 82) (by omega) (by omega) (by omega) (by omega) (by omega)) fun _ h3 q => pxW_some.mpr ?_
    obtain ⟨V3, C3⟩ := q
    have R3 := C3 _ l30 R1'
    have V12 : pyV (fun k f => k = 592 ∧ 13299 ≤ f ∧ f < 13392) h h2 := (V1.mono (fun k f z => by unfold pyQR at z; omega)).trans (V2.mono (fun k f z => by unfold pyQR at z; omega))
    have A2 := A0.row (rep2 := rep) (Int.le_refl _) V12 (fun k f a z => by unfold pyQWs at a; omega) R2 ok1 (by rw [V12.m (by omega)]; exact e44)
    have V3' : pyV (fun k f => k = 592 ∧ 2542 ≤ f ∧ f < 2573) h2 h3 := V3.mono (fun k f z => by unfold pyQR at z; omega)
    refine ⟨(V12.mono (fun k f z => by unfold pyQwa; omega)).trans (V3'.mono (fun k f z => by unfold pyQwa; omega)), rfl, py_0.1, py_0.2, fun _ => A2.sto (by omega) V3' (fun k f _ z => by omega) ⟨⟨⟨by show 1 ≤ 40; omega, pxOk_one okr⟩, IS.2⟩, ⟨?_, ?_⟩, A2.2.2.2.1.2.2.1.keep IS.2.1.1 IS.2.1.2 V3' (fun f _ _ => by omega) (by omega), A2.2.2.2.1.2.2.2.keep IS.2.2 V3' (fun f _ _ => by omega) (fun f _ => by omega)⟩⟩
    · rw [V3'.m (by omega), V12.m (by omega), He.1, c]; rfl
    · intro x x1 x2
      have x2' : x ≤ 1 := x2
      have ex : x = 1 := by omega
      rw [ex, show (82 : Int) + 1 - 1 = 82 by omega]
      exact R3
  · rw [if_neg c, if_neg (show ¬ (pxJ (S.1.length : Int) = (1 : Int32)) from py32 (a := (S.1.length : Int)) (b := 1) (by omega) (by omega) (by omega) (by omega) (by omega))]
    exact pxW_some.mpr ⟨pyV.rfl, pyWR_5⟩
set_option maxHeartbeats 8000000 in
theorem n_writeWork {k : Int} (A : pyWs h s T c0 W F S rep) (b0 : 0 ≤ c0) (k0 : 0 ≤ k) (k4 : k < 4) :
    pxW (f_X12_writeWork h 587 (pxJ k)) fun v h' => pyV pyQwa h h' ∧ pyWR s T (c0 + 1) (if (S.2.2 k).length < 40 then (0, W, F, (S.1, S.2.1, pxUF S.2.2 k (S.2.2 k ++ [W.2.2.2.2.2.1])), rep) else (4, W, F, S, rep)) v h' := by
  have A0 := A
  obtain ⟨H, G, L, Y, N, M, Wf, D, e17, e44, B⟩ := A
  obtain ⟨R, okr, -⟩ := Wf
  obtain ⟨IS, He, Ou, Fi⟩ := Y
  obtain ⟨f1, f2⟩ := Fi k k0 k4
  obtain ⟨i1, i2⟩ := IS.2.2 k k0 k4
  have l30 := okr.1
  unfold f_X12_writeWork
  rw [pyN_g11 H, px_bs, pyN_a597 H k0 k4, px_bs, f1]
  by_cases c : (S.2.2 k).length < 40
  · rw [if_pos c, if_neg (show ¬ (pxJ ((S.2.2 k).length : Int) = (40 : Int32)) from py32 (a := ((S.2.2 k).length : Int)) (b := 40) (by omega) (by omega) (by omega) (by omega) (by omega)), px_bs, pyN_a597 H k0 k4, px_bs, f1]
    unfold f_X12_fileRow
    rw [px_b2, show (41 : Int32) * pxJ k = pxJ (41 * k) from pxJ_mul 41 _, show (123 : Int32) + pxJ (41 * k) = pxJ (123 + 41 * k) from pxJ_add 123 _, pxJ_add, pyN_rc H, px_bs, show (429 : Int32) = pxJ 429 from rfl]
    refine pxW_b2 (n_copyRow H (a := 429) (b := 123 + 41 * k + ((S.2.2 k).length : Int)) (by omega) (by omega) (by omega) (by omega) (by omega)) fun _ h1 q => ?_
    obtain ⟨V1, C1⟩ := q
    have H1 := V1.s H
    have R1 := C1 _ l30 R
    rw [pyN_g11 H1, px_bs, pyN_a597 H1 k0 k4, px_bs, V1.m (by unfold pyQR; omega), f1, show pxJ ((S.2.2 k).length : Int) + (1 : Int32) = pxJ (((S.2.2 k).length : Int) + 1) from pxJ_add _ 1, pyN_s597 H1 k0 k4, px_bs]
    have V2 : pyV (fun a f => a = 597 ∧ (f : Int) = k) h1 (jw_setI h1 597 k.toNat (pxJ (((S.2.2 k).length : Int) + 1))) := pyV.rfl.set ⟨rfl, by omega⟩
    have g597 : pxM (jw_setI h1 597 k.toNat (pxJ (((S.2.2 k).length : Int) + 1))) 597 k.toNat = ((S.2.2 k).length : Int) + 1 := by rw [pxM_eq (by omega) (by omega)]
    generalize jw_setI h1 597 k.toNat (pxJ (((S.2.2 k).length : Int) + 1)) = h2 at *
    have V12 : pyV (fun a f => pyQR (123 + 41 * k + ((S.2.2 k).length : Int)) (123 + 41 * k + ((S.2.2 k).length : Int)) a f ∨ (a = 597 ∧ (f : Int) = k)) h h2 := (V1.mono (fun k f z => Or.inl z)).trans (V2.mono (fun k f z => Or.inr z))
    refine pxW_some.mpr ⟨V12.mono (fun a f z => by unfold pyQR at z; unfold pyQwa; omega), rfl, py_0.1, py_0.2, fun _ => A0.sto (by omega) V12 (fun a f _ z => by unfold pyQR at z; omega) ⟨⟨IS.1, IS.2.1, fun j j0 j4 => ?_⟩, He.keep IS.1.1 IS.1.2 V12 (fun f _ _ => by unfold pyQR; omega) (by unfold pyQR; omega), Ou.keep IS.2.1.1 IS.2.1.2 V12 (fun f _ _ => by unfold pyQR; omega) (by unfold pyQR; omega), fun j j0 j4 => ?_⟩⟩
    · show (pxUF S.2.2 k (S.2.2 k ++ [W.2.2.2.2.2.1]) j).length ≤ 40 ∧ pxOk (pxUF S.2.2 k (S.2.2 k ++ [W.2.2.2.2.2.1]) j)
      unfold pxUF
      by_cases e : j = k
      · rw [if_pos e, List.length_append, List.length_singleton]; exact ⟨by omega, pxOk_app i2 (pxOk_one okr)⟩
      · rw [if_neg e]; exact IS.2.2 j j0 j4
    · show pxM h2 597 j.toNat = (pxUF S.2.2 k (S.2.2 k ++ [W.2.2.2.2.2.1]) j).length ∧ pyRs h2 (123 + 41 * j) (pxUF S.2.2 k (S.2.2 k ++ [W.2.2.2.2.2.1]) j)
      unfold pxUF
      by_cases e : j = k
      · rw [if_pos e, e]
        refine ⟨by rw [g597, List.length_append, List.length_singleton]; omega, ?_⟩
        exact (f2.keep V12 (by omega) i2 (fun f _ _ => by unfold pyQR; omega)).app (R1.keep V2 (by omega) l30 (fun f _ _ => by omega))
      · rw [if_neg e]
        obtain ⟨w1, w2⟩ := IS.2.2 j j0 j4
        obtain ⟨z1, z2⟩ := Fi j j0 j4
        exact ⟨by rw [V12.m (by unfold pyQR; omega)]; exact z1, z2.keep V12 (by omega) w2 (fun f _ _ => by unfold pyQR; omega)⟩
  · rw [if_neg c, if_pos (show pxJ ((S.2.2 k).length : Int) = (40 : Int32) by rw [show ((S.2.2 k).length : Int) = 40 by omega]; rfl)]
    exact pxW_some.mpr ⟨pyV.rfl, pyWR_4⟩
theorem n_dueRows {rs : List (List Int)} {b : Int} (A : pyWs h s T c0 W F S rep) (b0 : 0 ≤ c0) (b1 : c0 ≤ 400) (ok : pxOk rs) (l40 : rs.length ≤ 40) (RS : pyRs h b rs) (z0 : 0 ≤ b) (z1 : b + rs.length ≤ 388) :
    pxW (f_X12_dueRows h 587 (pxJ b) (pxJ (rs.length : Int))) fun v h' => pyV pyQwa h h' ∧ pyWR s T (c0 + 1) (0, pxWd W (pxBDue W.2.2.2.2.2.2 rs), F, S, rep) v h' := by
  obtain ⟨H, G, L, Y, N, M, Wf, D, e17, e44, B⟩ := id A
  obtain ⟨m, e72, m0, m1, ld, okd, DS⟩ := D
  unfold f_X12_dueRows
  rw [show (0 : Int32) = pxJ 0 from rfl]
  refine pxW.mono (n_dueRows_b2 ok z0 z1 rfl rs.length jw_FU h 0 m W.2.2.2.2.2.2 (by omega) (by unfold jw_FU; omega) (by omega) H RS ⟨e72, ld, okd, DS⟩ m0 (by omega)) fun v h' q => ?_
  obtain ⟨V, rfl, D'⟩ := q
  rw [show (0 : Int).toNat = 0 from rfl, List.drop_zero] at D'
  have V' : pyV pyQwa h h' := V.mono (fun k f z => by unfold pyQdu at z; unfold pyQwa; omega)
  obtain ⟨H', G', L'⟩ := A.b V'
  exact ⟨V', rfl, py_0.1, py_0.2, fun _ => ⟨H', G', L', Y.keep V (fun k f z => by unfold pyQdu; omega), N.keep V (fun k f z => by unfold pyQdu; omega), M.keep V (fun f _ => by unfold pyQdu; omega), Wf.keep V (fun k f z => by unfold pyQdu; omega), ⟨_, D'.1, by omega, by omega, D'.2⟩, by rw [V.m (by unfold pyQdu; omega)]; exact e17, by rw [V.m (by unfold pyQdu; omega)]; exact e44, B⟩⟩
/-- an act that changes the row -/
theorem n_chgW {P : Nat → Nat → Prop} {h1 : jw_H} {rp : Bool} (A : pyWs h s T c0 W F S rep) (b0 : 0 ≤ c0) (ok : (pxAct s p).1 = true) (p0 : 0 ≤ p) (V : pyV P h h1) (n : ∀ k f, pyQWs k f → P k f → (k = 592 ∧ 13299 ≤ f ∧ f < 13330) ∨ (k = 587 ∧ f = 44)) (R : (pxChg s p W.2.2.2.2.2.1).1.length ≤ 30 → pyR h1 429 (pxChg s p W.2.2.2.2.2.1).1) (e44 : pxM h1 587 44 = pyB (rep || (pxChg s p W.2.2.2.2.2.1).2)) :
    pyWR s T (c0 + 1) (if 30 < (pxChg s p W.2.2.2.2.2.1).1.length then (4, W, F, S, rep) else (0, pxWr W (pxChg s p W.2.2.2.2.2.1).1, F, S, (rep || (pxChg s p W.2.2.2.2.2.1).2))) (pxJ (if (pxChg s p W.2.2.2.2.2.1).1.length ≤ 30 then 0 else 4)) h1 := by
  have okr := A.2.2.2.2.2.2.1.2.1
  by_cases c : (pxChg s p W.2.2.2.2.2.1).1.length ≤ 30
  · rw [if_pos c, if_neg (by omega)]
    exact ⟨rfl, py_0.1, py_0.2, fun _ => A.row (by omega) V n (R c) (pyChg_or okr ok p0 c) e44⟩
  · rw [if_neg c, if_pos (by omega)]
    exact pyWR_4
end
