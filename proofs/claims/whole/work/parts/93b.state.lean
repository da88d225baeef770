/-! the reference, line by line: the state in which a line is worked on -/
def pyWf (h : jw_H) (n : Int) (W : pxWk) : Prop := pyR h 429 W.2.2.2.2.2.1 ∧ pxOr W.2.2.2.2.2.1 ∧ pxM h 587 65 = n ∧ pxM h 587 66 = W.2.2.1 ∧ pxM h 587 67 = W.1 ∧ pxM h 587 68 = W.2.1 ∧ pxM h 587 69 = W.2.2.2.1 ∧ pxM h 587 70 = pyB (!W.2.2.2.2.1) ∧ (0 ≤ W.2.1 ∧ W.2.1 ≤ n) ∧ (0 ≤ W.2.2.1 ∧ W.2.2.1 ≤ n) ∧ 1 ≤ W.2.2.2.1 ∧ W.2.2.2.1 ≤ W.2.2.1
theorem pyWf.keep {P : Nat → Nat → Prop} {h h1 : jw_H} {n : Int} {W : pxWk} (A : pyWf h n W) (V : pyV P h h1) (c : ∀ k f, (k = 592 ∧ 13299 ≤ f ∧ f < 13330) ∨ (k = 587 ∧ 65 ≤ f ∧ f ≤ 70) → ¬ P k f) : pyWf h1 n W := by
  obtain ⟨R, ok, a, b, d, e, f, g, r⟩ := A
  exact ⟨R.keep V (by omega) ok.1 (fun f _ _ => c _ _ (by omega)), ok, by rw [V.m (c _ _ (by omega))]; exact a, by rw [V.m (c _ _ (by omega))]; exact b, by rw [V.m (c _ _ (by omega))]; exact d, by rw [V.m (c _ _ (by omega))]; exact e, by rw [V.m (c _ _ (by omega))]; exact f, by rw [V.m (c _ _ (by omega))]; exact g, r⟩
/-- the ids of the lines that live on -/
def pyLvs (T : pxTx) (W : pxWk) (F : pxFh) : List Int := pxIds F.1 ++ ((if W.2.2.2.2.1 = true then [] else [W.1]) ++ pxIds (T.1.drop W.2.2.1.toNat))
def pyBd (T : pxTx) (F : pxFh) : Prop := (0 ≤ T.2.2.2 ∧ T.2.2.2 ≤ F.2.2) ∧ F.2.2 ≤ T.2.2.2 + F.1.length ∧ T.2.2.2 ≤ 2000000
def pyWs (h : jw_H) (s : List Int) (T : pxTx) (came : Int) (W : pxWk) (F : pxFh) (S : pxSto) (rep : Bool) : Prop :=
  pyS h ∧ pyG h s ∧ pyL h T.1 ∧ pyY h S ∧ pyNw h F.1 ∧ pyMk h F.2.1 F.2.2 (pyLvs T W F) ∧ pyWf h T.1.length W ∧ pyDu h came W.2.2.2.2.2.2 ∧ pxM h 587 17 = F.2.2 ∧ pxM h 587 44 = pyB rep ∧ pyBd T F
def pyQWs : Nat → Nat → Prop := fun k f => (k = 592 ∧ f < 13330) ∨ (k = 593 ∧ f < 40) ∨ k = 594 ∨ (k = 596 ∧ f < 5) ∨ (k = 597 ∧ f < 4) ∨ k = 599 ∨ (k = 587 ∧ (f = 12 ∨ f = 13 ∨ f = 14 ∨ f = 15 ∨ f = 17 ∨ f = 22 ∨ f = 44 ∨ (65 ≤ f ∧ f ≤ 70) ∨ f = 72))
theorem pyWs.keep {P : Nat → Nat → Prop} {h h1 : jw_H} {s : List Int} {T : pxTx} {came c2 : Int} {W : pxWk} {F : pxFh} {S : pxSto} {rep : Bool} (A : pyWs h s T came W F S rep) (V : pyV P h h1) (cc : came ≤ c2) (n : ∀ k f, pyQWs k f → ¬ P k f) : pyWs h1 s T c2 W F S rep := by
  obtain ⟨H, G, L, Y, N, M, Wf, D, e17, e44, B⟩ := A
  exact ⟨V.s H, G.keep V (n _ _ (by unfold pyQWs; omega)) (fun f _ => n _ _ (by unfold pyQWs; omega)), L.keep V (fun f _ => n _ _ (by unfold pyQWs; omega)) (fun f _ => n _ _ (by unfold pyQWs; omega)) (n _ _ (by unfold pyQWs; omega)), Y.keep V (fun k f z => n _ _ (by unfold pyQWs; omega)), N.keep V (fun k f z => n _ _ (by unfold pyQWs; omega)), M.keep V (fun f _ => n _ _ (by unfold pyQWs; omega)), Wf.keep V (fun k f z => n _ _ (by unfold pyQWs; omega)), D.keep V cc (fun k f z => n _ _ (by unfold pyQWs; omega)), by rw [V.m (n _ _ (by unfold pyQWs; omega))]; exact e17, by rw [V.m (n _ _ (by unfold pyQWs; omega))]; exact e44, B⟩
set_option maxHeartbeats 8000000 in
theorem n_putWork {h : jw_H} {s : List Int} {T : pxTx} {came : Int} {W : pxWk} {F : pxFh} {S : pxSto} {rep : Bool} (A : pyWs h s T came W F S rep) (c1 : came ≤ 10000) :
    pxW (f_X12_putWork h 587) fun v h' => pyV pyQpn h h' ∧ (pxBEnd W F = none → v = pxJ 4) ∧ ∀ F', pxBEnd W F = some F' → v = pxJ 0 ∧ pyNw h' F'.1 ∧ pxM h' 587 17 = F'.2.2 ∧ pyBd T F' ∧ pyMk h' F'.2.1 F'.2.2 (pxIds F'.1 ++ pxIds (T.1.drop W.2.2.1.toNat)) := by
  obtain ⟨H, G, L, Y, N, M, Wf, D, e17, e44, B⟩ := A
  obtain ⟨b0, b1, b2⟩ := B
  obtain ⟨m, e72, m0, m1, ld, okd, RS⟩ := D
  obtain ⟨R, okr, w65, w66, w67, w68, w69, w70, -, -, -⟩ := Wf
  have l40 := N.2.1
  have lo := pxM_lo h 587 67
  have hi := pxM_hi h 587 67
  rw [w67] at lo hi
  unfold f_X12_putWork
  rw [pyN_gI H, px_bs, w70]
  unfold pxBEnd pyLvs at *
  cases g : W.2.2.2.2.1 with
  | true =>
    rw [g] at M
    rw [if_pos rfl, List.nil_append] at M
    rw [if_pos (show pxJ (pyB (!true)) = 0 from rfl), if_pos rfl]
    unfold g_X12_putWork_b22
    rw [show (0 : Int32) = pxJ 0 from rfl]
    refine pxW.mono (n_putWork_b25 (due := W.2.2.2.2.2.2) (m := m) (by omega) ld okd (40 - F.1.length) jw_FU h 0 F (by omega) (by unfold jw_FU; omega) (by omega) (by omega) H e72 RS N e17 (by omega) (by omega) M) fun v h' q => ?_
    obtain ⟨V, q1, q2⟩ := q
    refine ⟨V, q1, fun F' z => ?_⟩
    obtain ⟨a1, a2, a3, a4, a5, a6⟩ := q2 F' z
    exact ⟨a1, a2, a3, ⟨⟨b0.1, by omega⟩, by omega, b2⟩, a6⟩
  | false =>
    rw [g] at M
    rw [if_neg (show ¬ (false = true) by decide)] at M
    rw [if_neg (show ¬ (pxJ (pyB (!false)) = 0) by decide), if_neg (show ¬ (false = true) by decide), pyN_gI H, px_bs, w67, pyN_rc H, px_bs, show (429 : Int32) = pxJ 429 from rfl]
    refine pxW_b2 (n_put H N R okr (by omega) (by omega) (by omega) lo hi) fun v h5 q => ?_
    obtain ⟨V5, rfl, N5⟩ := q
    have H5 := V5.s H
    have V5' : pyV pyQpn h h5 := V5.mono (fun k f z => Or.inl z)
    unfold g_X12_putWork_b22
    by_cases c : F.1.length < 40
    · rw [if_pos c, if_pos c]
      have el : (F.1 ++ [(W.1, W.2.2.2.2.2.1)]).length = F.1.length + 1 := by rw [List.length_append]; rfl
      have M5 : pyMk h5 F.2.1 F.2.2 (pxIds (F.1 ++ [(W.1, W.2.2.2.2.2.1)]) ++ pxIds (T.1.drop W.2.2.1.toNat)) := by
        have := M.keep V5 (fun f _ => by unfold pyQpt; omega)
        have ee : pxIds (F.1 ++ [(W.1, W.2.2.2.2.2.1)]) ++ pxIds (T.1.drop W.2.2.1.toNat) = pxIds F.1 ++ ([W.1] ++ pxIds (T.1.drop W.2.2.1.toNat)) := by
          unfold pxIds
          rw [List.map_append, List.append_assoc]
          rfl
        rw [ee]
        exact this
      rw [show (0 : Int32) = pxJ 0 from rfl]
      refine pxW.mono (n_putWork_b25 (due := W.2.2.2.2.2.2) (m := m) (by omega) ld okd (39 - F.1.length) jw_FU h5 0 (F.1 ++ [(W.1, W.2.2.2.2.2.1)], F.2.1, F.2.2) (by show (F.1 ++ [(W.1, W.2.2.2.2.2.1)]).length + (39 - F.1.length) = 40; omega) (by unfold jw_FU; omega) (by omega) (by show (0 : Int) ≤ ((F.1 ++ [(W.1, W.2.2.2.2.2.1)]).length : Int); omega) H5 (by rw [V5.m (by unfold pyQpt; omega)]; exact e72) (RS.keep V5 (by omega) okd (fun f _ _ => by unfold pyQpt; omega)) (N5 c) (by rw [V5.m (by unfold pyQpt; omega)]; exact e17) (by show 0 ≤ F.2.2; omega) (by show F.2.2 + ((39 - F.1.length : Nat) : Int) ≤ 2000000100; omega) M5) fun v h' q => ?_
      obtain ⟨V, q1, q2⟩ := q
      refine ⟨V5'.trans V, q1, fun F' z => ?_⟩
      obtain ⟨a1, a2, a3, a4, a5, a6⟩ := q2 F' z
      have a5' : F.2.2 ≤ F'.2.2 := a5
      have a4' : F'.2.2 - F'.1.length = F.2.2 - ((F.1 ++ [(W.1, W.2.2.2.2.2.1)]).length : Int) := a4
      exact ⟨a1, a2, a3, ⟨⟨b0.1, by omega⟩, by omega, b2⟩, a6⟩
    · rw [if_neg c, if_neg c]
      have f72 : pxM h5 587 72 = m := by rw [V5.m (by unfold pyQpt; omega)]; exact e72
      obtain ⟨N', eN⟩ : ∃ N', jw_FU = N' + 1 := ⟨99999, by unfold jw_FU; rfl⟩
      rw [eN, u_X12_putWork_b25]
      unfold g_X12_putWork_b25
      rw [pyN_gI H5, px_bs, f72]
      by_cases y : pxJ m ≤ (0 : Int32)
      · rw [if_pos y]
        exact pxW_some.mpr ⟨V5', fun _ => rfl, fun F' z => by cases z⟩
      · rw [if_neg y, if_neg (show ¬ (pxJ 4 = 0) by decide)]
        exact pxW_some.mpr ⟨V5', fun _ => rfl, fun F' z => by cases z⟩
/-- between lines -/
def pyWb (h : jw_H) (s : List Int) (T : pxTx) (tk tn : Int) (F : pxFh) (S : pxSto) : Prop :=
  pyS h ∧ pyG h s ∧ pyL h T.1 ∧ pyY h S ∧ pyNw h F.1 ∧ pyMk h F.2.1 F.2.2 (pxIds F.1 ++ pxIds (T.1.drop tk.toNat)) ∧ pxM h 587 65 = T.1.length ∧ pxM h 587 66 = tk ∧ pxM h 587 69 = tn ∧ pxM h 587 17 = F.2.2 ∧ (0 ≤ tk ∧ tk ≤ T.1.length) ∧ (0 ≤ tn ∧ tn ≤ tk) ∧ pyBd T F
theorem pyWs.put {h h' : jw_H} {s : List Int} {T : pxTx} {came : Int} {W : pxWk} {F F' : pxFh} {S : pxSto} {rep : Bool} (A : pyWs h s T came W F S rep) (V : pyV pyQpn h h') (N : pyNw h' F'.1) (e17 : pxM h' 587 17 = F'.2.2) (B : pyBd T F') (M : pyMk h' F'.2.1 F'.2.2 (pxIds F'.1 ++ pxIds (T.1.drop W.2.2.1.toNat))) : pyWb h' s T W.2.2.1 W.2.2.2.1 F' S := by
  obtain ⟨H, G, L, Y, -, -, Wf, D, -, e44, -⟩ := A
  obtain ⟨R, okr, w65, w66, w67, w68, w69, w70, -, b2, b3⟩ := Wf
  exact ⟨V.s H, G.keep V (by unfold pyQpn pyQpt; omega) (fun f _ => by unfold pyQpn pyQpt; omega), L.keep V (fun f _ => by unfold pyQpn pyQpt; omega) (fun f _ => by unfold pyQpn pyQpt; omega) (by unfold pyQpn pyQpt; omega), Y.keep V (fun k f z => by unfold pyQpn pyQpt; omega), N, M, by rw [V.m (by unfold pyQpn pyQpt; omega)]; exact w65, by rw [V.m (by unfold pyQpn pyQpt; omega)]; exact w66, by rw [V.m (by unfold pyQpn pyQpt; omega)]; exact w69, e17, b2, ⟨by omega, b3.2⟩, B⟩
def pyQtn : Nat → Nat → Prop := fun k f => (k = 592 ∧ 13299 ≤ f ∧ f < 13330) ∨ (k = 587 ∧ ((66 ≤ f ∧ f ≤ 70) ∨ f = 72 ∨ f = 44))
set_option maxHeartbeats 8000000 in
theorem n_takeNext {h : jw_H} {s : List Int} {T : pxTx} {came tk tn : Int} {F : pxFh} {S : pxSto} (A : pyWb h s T tk tn F S) (c0 : 0 ≤ came) (lt : tk < T.1.length) :
    pxW (f_X12_takeNext h 587) fun _ h' => pyV pyQtn h h' ∧ pyWs h' s T came (pxId T.1 (tk + 1), tk + 1, tk + 1, tn + 1, false, pxRw (pxRs T.1) (tk + 1), []) F S false := by
  obtain ⟨H, G, L, Y, N, M, e65, e66, e69, e17, b2, b3, B⟩ := A
  have l40 := L.2.1
  obtain ⟨rw1, ri1⟩ := L.2.2.2 (tk + 1) (by omega) (by omega)
  rw [show tk + 1 - 1 = tk by omega] at rw1 ri1
  have okr := pyAt_or L.2.2.1 (tk + 1)
  unfold f_X12_takeNext
  rw [pyN_gI H, px_bs, e66, pyN_rc H, px_bs, show (0 : Int32) + pxJ tk = pxJ (0 + tk) from pxJ_add 0 _, show (429 : Int32) = pxJ 429 from rfl, show (0 : Int) + tk = tk by omega]
  refine pxW_b2 (n_copyRow H (show (0 : Int) ≤ tk by omega) (by omega) (show (0 : Int) ≤ 429 by omega) (by omega) (by omega)) fun _ h3 q => ?_
  obtain ⟨V3, C3⟩ := q
  have H3 := V3.s H
  have R3 := C3 _ okr.1 rw1
  have f66 : pxM h3 587 66 = tk := by rw [V3.m (by unfold pyQR; omega)]; exact e66
  have f69 : pxM h3 587 69 = tn := by rw [V3.m (by unfold pyQR; omega)]; exact e69
  have f593 : pxM h3 593 tk.toNat = (pxAt T.1 (tk + 1)).1 := by rw [V3.m (by unfold pyQR; omega)]; exact ri1
  have lo := pxM_lo h3 593 tk.toNat
  have hi := pxM_hi h3 593 tk.toNat
  rw [f593] at lo hi
  rw [pyN_g7 H3, px_bs, pyN_gI H3, px_bs, f66, pyN_a593 H3 (by omega) (by omega), px_bs, f593, pyN_pI H3, px_bs]
  have V8 : pyV (fun k f => k = 587 ∧ f = 67) h3 (jw_setI h3 587 67 (pxJ (pxAt T.1 (tk + 1)).1)) := pyV.rfl.set ⟨rfl, rfl⟩
  have g67 : pxM (jw_setI h3 587 67 (pxJ (pxAt T.1 (tk + 1)).1)) 587 67 = (pxAt T.1 (tk + 1)).1 := by rw [pxM_eq lo hi]
  generalize jw_setI h3 587 67 (pxJ (pxAt T.1 (tk + 1)).1) = h8 at *
  have H8 := V8.s H3
  rw [pyN_gI H8, px_bs, V8.m (by omega), f66, show pxJ tk + (1 : Int32) = pxJ (tk + 1) from pxJ_add _ 1, pyN_pI H8, px_bs]
  have V10 : pyV (fun k f => k = 587 ∧ f = 68) h8 (jw_setI h8 587 68 (pxJ (tk + 1))) := pyV.rfl.set ⟨rfl, rfl⟩
  have g68 : pxM (jw_setI h8 587 68 (pxJ (tk + 1))) 587 68 = tk + 1 := by rw [pxM_eq (by omega) (by omega)]
  generalize jw_setI h8 587 68 (pxJ (tk + 1)) = h10 at *
  have H10 := V10.s H8
  rw [pyN_gI H10, px_bs, V10.m (by omega), V8.m (by omega), f66, show pxJ tk + (1 : Int32) = pxJ (tk + 1) from pxJ_add _ 1, pyN_pI H10, px_bs]
  have V12 : pyV (fun k f => k = 587 ∧ f = 66) h10 (jw_setI h10 587 66 (pxJ (tk + 1))) := pyV.rfl.set ⟨rfl, rfl⟩
  have g66 : pxM (jw_setI h10 587 66 (pxJ (tk + 1))) 587 66 = tk + 1 := by rw [pxM_eq (by omega) (by omega)]
  generalize jw_setI h10 587 66 (pxJ (tk + 1)) = h12 at *
  have H12 := V12.s H10
  rw [pyN_gI H12, px_bs, V12.m (by omega), V10.m (by omega), V8.m (by omega), f69, show pxJ tn + (1 : Int32) = pxJ (tn + 1) from pxJ_add _ 1, pyN_pI H12, px_bs]
  have V14 : pyV (fun k f => k = 587 ∧ f = 69) h12 (jw_setI h12 587 69 (pxJ (tn + 1))) := pyV.rfl.set ⟨rfl, rfl⟩
  have g69 : pxM (jw_setI h12 587 69 (pxJ (tn + 1))) 587 69 = tn + 1 := by rw [pxM_eq (by omega) (by omega)]
  generalize jw_setI h12 587 69 (pxJ (tn + 1)) = h14 at *
  have H14 := V14.s H12
  rw [pyN_pB H14 70 (1 : Int32) (Or.inr rfl), px_bs, show (1 : Int32) = pxJ 1 from rfl]
  have V15 : pyV (fun k f => k = 587 ∧ f = 70) h14 (jw_setI h14 587 70 (pxJ 1)) := pyV.rfl.set ⟨rfl, rfl⟩
  have g70 : pxM (jw_setI h14 587 70 (pxJ 1)) 587 70 = 1 := by rw [pxM_eq (by omega) (by omega)]
  generalize jw_setI h14 587 70 (pxJ 1) = h15 at *
  have H15 := V15.s H14
  rw [show (0 : Int32) = pxJ 0 from rfl, pyN_pI H15, px_bs]
  have V16 : pyV (fun k f => k = 587 ∧ f = 72) h15 (jw_setI h15 587 72 (pxJ 0)) := pyV.rfl.set ⟨rfl, rfl⟩
  have g72 : pxM (jw_setI h15 587 72 (pxJ 0)) 587 72 = 0 := by rw [pxM_eq (by omega) (by omega)]
  generalize jw_setI h15 587 72 (pxJ 0) = h16 at *
  have H16 := V16.s H15
  rw [pyN_pB H16 44 (pxJ 0) (Or.inl rfl), px_bs]
  have V17 : pyV (fun k f => k = 587 ∧ f = 44) h16 (jw_setI h16 587 44 (pxJ 0)) := pyV.rfl.set ⟨rfl, rfl⟩
  have g44 : pxM (jw_setI h16 587 44 (pxJ 0)) 587 44 = 0 := by rw [pxM_eq (by omega) (by omega)]
  generalize jw_setI h16 587 44 (pxJ 0) = h17 at *
  have V317 : pyV (fun k f => k = 587 ∧ ((66 ≤ f ∧ f ≤ 70) ∨ f = 72 ∨ f = 44)) h3 h17 := ((((((V8.mono (fun k f z => by omega)).trans (V10.mono (fun k f z => by omega))).trans (V12.mono (fun k f z => by omega))).trans (V14.mono (fun k f z => by omega))).trans (V15.mono (fun k f z => by omega))).trans (V16.mono (fun k f z => by omega))).trans (V17.mono (fun k f z => by omega))
  have V : pyV pyQtn h h17 := (V3.mono (fun k f z => by unfold pyQR at z; unfold pyQtn; omega)).trans (V317.mono (fun k f z => Or.inr z))
  refine pxW_some.mpr ⟨V, V.s H, G.keep V (by unfold pyQtn; omega) (fun f _ => by unfold pyQtn; omega), L.keep V (fun f _ => by unfold pyQtn; omega) (fun f _ => by unfold pyQtn; omega) (by unfold pyQtn; omega), Y.keep V (fun k f z => by unfold pyQtn; omega), N.keep V (fun k f z => by unfold pyQtn; omega), ?_, ⟨?_, ?_, ?_, ?_, ?_, ?_, ?_, ?_, ?_⟩, ?_, by rw [V.m (by unfold pyQtn; omega)]; exact e17, g44, B⟩
  · have M' := M.keep V (fun f _ => by unfold pyQtn; omega)
    have ed := pxAt_drop (ls := T.1) (x := tk + 1) (by omega) (by omega)
    rw [show tk + 1 - 1 = tk by omega] at ed
    rw [ed] at M'
    exact M'
  · show pyR h17 429 (pxRw (pxRs T.1) (tk + 1))
    rw [pxRs_at]
    exact R3.keep V317 (by omega) okr.1 (fun f _ _ => by omega)
  · show pxOr (pxRw (pxRs T.1) (tk + 1))
    rw [pxRs_at]
    exact okr
  · rw [V.m (by unfold pyQtn; omega)]; exact e65
  · rw [V17.m (by omega), V16.m (by omega), V15.m (by omega), V14.m (by omega)]; exact g66
  · rw [V17.m (by omega), V16.m (by omega), V15.m (by omega), V14.m (by omega), V12.m (by omega), V10.m (by omega)]; exact g67
  · rw [V17.m (by omega), V16.m (by omega), V15.m (by omega), V14.m (by omega), V12.m (by omega)]; exact g68
  · rw [V17.m (by omega), V16.m (by omega), V15.m (by omega)]; exact g69
  · rw [V17.m (by omega), V16.m (by omega)]; exact g70
  · show (0 ≤ tk + 1 ∧ tk + 1 ≤ (T.1.length : Int)) ∧ (0 ≤ tk + 1 ∧ tk + 1 ≤ (T.1.length : Int)) ∧ 1 ≤ tn + 1 ∧ tn + 1 ≤ tk + 1
    omega
  · exact ⟨0, by rw [V17.m (by omega)]; exact g72, by omega, by omega, rfl, pxOk_nil, fun x x0 x1 => by
      have : x ≤ 0 := x1
      omega⟩
def pyQpr : Nat → Nat → Prop := fun k f => pyQpt k f ∨ (k = 587 ∧ f = 66)
set_option maxHeartbeats 8000000 in
theorem n_putRest_b2 {T : pxTx} : ∀ (d N : Nat) (h : jw_H) (tk : Int) (F : pxFh), tk + d = T.1.length → d + 1 < N → 0 ≤ tk → pyS h → pyL h T.1 → pyNw h F.1 → pxM h 587 65 = T.1.length → pxM h 587 66 = tk → pyMk h F.2.1 F.2.2 (pxIds F.1 ++ pxIds (T.1.drop tk.toNat)) →
    pxW (f_X12_putRest_b2 N h 587 (pxJ 0)) fun v h' => pyV pyQpr h h' ∧ (pxBRest (T.1.drop tk.toNat) F = none → v = pxJ 4) ∧ ∀ F', pxBRest (T.1.drop tk.toNat) F = some F' → v = pxJ 0 ∧ pyNw h' F'.1 ∧ F'.2.2 = F.2.2 ∧ F.1.length ≤ F'.1.length ∧ pyMk h' F'.2.1 F'.2.2 (pxIds F'.1) := by
  intro d
  induction d with
  | zero =>
    intro N h tk F hd hN k0 H L N0 e65 e66 M
    obtain ⟨N, rfl, hN⟩ := px_fu hN
    have l40 := L.2.1
    rw [u_X12_putRest_b2]
    unfold g_X12_putRest_b2
    rw [pyN_gI H, px_bs, e66, pyN_gI H, px_bs, e65, if_pos (show pxJ (T.1.length : Int) ≤ pxJ tk from (pxJ_le (by omega) (by omega) (by omega) (by omega)).mpr (by omega))]
    rw [List.drop_eq_nil_of_le (by omega)] at M ⊢
    refine pxW_some.mpr ⟨pyV.rfl, fun z => (by cases z), fun F' z => ?_⟩
    cases z
    refine ⟨rfl, N0, rfl, Nat.le_refl _, ?_⟩
    have e0 : pxIds ([] : pxLs) = [] := rfl
    rw [e0, List.append_nil] at M
    exact M
  | succ d ih =>
    intro N h tk F hd hN k0 H L N0 e65 e66 M
    obtain ⟨N, rfl, hN⟩ := px_fu hN
    have l40 := L.2.1
    obtain ⟨rw1, ri1⟩ := L.2.2.2 (tk + 1) (by omega) (by omega)
    rw [show tk + 1 - 1 = tk by omega] at rw1 ri1
    have okr := pyAt_or L.2.2.1 (tk + 1)
    have ed := pxAt_drop (ls := T.1) (x := tk + 1) (by omega) (by omega)
    rw [show tk + 1 - 1 = tk by omega] at ed
    have lo := pxM_lo h 593 tk.toNat
    have hi := pxM_hi h 593 tk.toNat
    rw [ri1] at lo hi
    rw [u_X12_putRest_b2]
    unfold g_X12_putRest_b2
    rw [pyN_gI H, px_bs, e66, pyN_gI H, px_bs, e65, if_neg (show ¬ (pxJ (T.1.length : Int) ≤ pxJ tk) from fun z => by have := (pxJ_le (a := (T.1.length : Int)) (b := tk) (by omega) (by omega) (by omega) (by omega)).mp z; omega), if_pos (show pxJ 0 = 0 from rfl), px_bs, pyN_g7 H, px_bs, px_bs, pyN_a593 H (by omega) (by omega), px_bs, ri1, pyN_rc H, px_bs, show (0 : Int32) + pxJ tk = pxJ (0 + tk) from pxJ_add 0 _, show (0 : Int) + tk = tk by omega]
    refine pxW_b2 (n_put H N0 rw1 okr (by omega) (by omega) (by omega) lo hi) fun v h5 q => ?_
    obtain ⟨V5, rfl, N5⟩ := q
    have H5 := V5.s H
    rw [pyN_gI H5, px_bs, V5.m (by unfold pyQpt; omega), e66, show pxJ tk + (1 : Int32) = pxJ (tk + 1) from pxJ_add _ 1, pyN_pI H5, px_bs]
    have V6 : pyV (fun k f => k = 587 ∧ f = 66) h5 (jw_setI h5 587 66 (pxJ (tk + 1))) := pyV.rfl.set ⟨rfl, rfl⟩
    have g66 : pxM (jw_setI h5 587 66 (pxJ (tk + 1))) 587 66 = tk + 1 := by rw [pxM_eq (by omega) (by omega)]
    generalize jw_setI h5 587 66 (pxJ (tk + 1)) = h6 at *
    have H6 := V6.s H5
    have V06 : pyV pyQpr h h6 := (V5.mono (fun k f z => Or.inl z)).trans (V6.mono (fun k f z => Or.inr z))
    have e65' : pxM h6 587 65 = T.1.length := by rw [V06.m (by unfold pyQpr pyQpt; omega)]; exact e65
    by_cases c : F.1.length < 40
    · rw [if_pos c]
      have en : pxBRest (T.1.drop tk.toNat) F = pxBRest (T.1.drop (tk + 1).toNat) (F.1 ++ [pxAt T.1 (tk + 1)], F.2.1, F.2.2) := by
        rw [ed]
        show (if F.1.length < 40 then pxBRest (T.1.drop (tk + 1).toNat) (F.1 ++ [pxAt T.1 (tk + 1)], F.2.1, F.2.2) else none) = _
        rw [if_pos c]
      rw [en]
      have M6 : pyMk h6 F.2.1 F.2.2 (pxIds (F.1 ++ [pxAt T.1 (tk + 1)]) ++ pxIds (T.1.drop (tk + 1).toNat)) := by
        have m1 := M.keep V06 (fun f _ => by unfold pyQpr pyQpt; omega)
        rw [ed] at m1
        unfold pxIds at m1 ⊢
        rw [List.map_append, List.append_assoc]
        exact m1
      have N6 : pyNw h6 (F.1 ++ [pxAt T.1 (tk + 1)]) := (N5 c).keep V6 (fun k f z => by omega)
      refine pxW.mono (ih N h6 (tk + 1) (F.1 ++ [pxAt T.1 (tk + 1)], F.2.1, F.2.2) (by omega) (by omega) (by omega) H6 (L.keep V06 (fun f _ => by unfold pyQpr pyQpt; omega) (fun f _ => by unfold pyQpr pyQpt; omega) (by unfold pyQpr pyQpt; omega)) N6 e65' g66 M6) fun v h' q => ?_
      obtain ⟨V7, q1, q2⟩ := q
      refine ⟨V06.trans V7, q1, fun F' z => ?_⟩
      obtain ⟨a1, a2, a3, a4, a5⟩ := q2 F' z
      have a4' : (F.1 ++ [pxAt T.1 (tk + 1)]).length ≤ F'.1.length := a4
      rw [List.length_append] at a4'
      exact ⟨a1, a2, a3, by omega, a5⟩
    · rw [if_neg c]
      have en : pxBRest (T.1.drop tk.toNat) F = none := by
        rw [ed]
        show (if F.1.length < 40 then pxBRest (T.1.drop (tk + 1).toNat) (F.1 ++ [pxAt T.1 (tk + 1)], F.2.1, F.2.2) else none) = _
        rw [if_neg c]
      rw [en]
      obtain ⟨N, rfl⟩ : ∃ N', N = N' + 1 := ⟨N - 1, by omega⟩
      rw [u_X12_putRest_b2]
      unfold g_X12_putRest_b2
      rw [pyN_gI H6, px_bs, pyN_gI H6, px_bs]
      by_cases y : pxJ (pxM h6 587 65) ≤ pxJ (pxM h6 587 66)
      · rw [if_pos y]
        exact pxW_some.mpr ⟨V06, fun _ => rfl, fun F' z => by cases z⟩
      · rw [if_neg y, if_neg (show ¬ (pxJ 4 = 0) by decide)]
        exact pxW_some.mpr ⟨V06, fun _ => rfl, fun F' z => by cases z⟩
theorem n_putRest {h : jw_H} {s : List Int} {T : pxTx} {tk tn : Int} {F : pxFh} {S : pxSto} (A : pyWb h s T tk tn F S) :
    pxW (f_X12_putRest h 587) fun v h' => pyV pyQpr h h' ∧ (pxBRest (T.1.drop tk.toNat) F = none → v = pxJ 4) ∧ ∀ F', pxBRest (T.1.drop tk.toNat) F = some F' → v = pxJ 0 ∧ pyNw h' F'.1 ∧ F'.2.2 = F.2.2 ∧ F.1.length ≤ F'.1.length ∧ pyMk h' F'.2.1 F'.2.2 (pxIds F'.1) := by
  obtain ⟨H, G, L, Y, N, M, e65, e66, e69, e17, b2, b3, B⟩ := A
  have l40 := L.2.1
  unfold f_X12_putRest
  rw [show (0 : Int32) = pxJ 0 from rfl]
  exact n_putRest_b2 (T.1.length - tk.toNat) jw_FU h tk F (by omega) (by unfold jw_FU; omega) (by omega) H L N e65 e66 M
