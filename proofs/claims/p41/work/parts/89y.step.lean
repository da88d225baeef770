/-! orders over the whole: a step of a run -/
theorem pxStr_b {s : List Int} {L : List (Int × List Int)} {j : Nat} {p f l : Int} {T : pxTx} {rep : Bool} : 0 ≤ (pxStr s L j p f l T rep).1 ∧ (pxStr s L j p f l T rep).1 ≤ 7 := by
  have z0 : (0 : Int) ≤ 0 ∧ (0 : Int) ≤ 7 := by omega
  have z1 : (0 : Int) ≤ 1 ∧ (1 : Int) ≤ 7 := by omega
  have z6 : (0 : Int) ≤ 6 ∧ (6 : Int) ≤ 7 := by omega
  unfold pxStr
  by_cases c1 : (pxWh s p).2.2.1 ≠ 0 ∧ (T.2.2.1 < f ∨ l < T.2.2.1)
  · rw [if_pos c1]; exact z0
  rw [if_neg c1]
  by_cases c2 : pxAc s p = 78
  · rw [if_pos c2]
    by_cases d : T.2.2.1 < (T.1.length : Int)
    · rw [if_pos d]; exact z0
    · rw [if_neg d]; exact z1
  rw [if_neg c2]
  by_cases c3 : pxAc s p = 58 ∨ (pxAc s p = 84 ∧ rep = false)
  · rw [if_pos c3]; exact z0
  rw [if_neg c3]
  by_cases c4 : pxAc s p = 113 ∨ pxOn s (pxWh s p).2.1 = -1
  · rw [if_pos c4]; exact z0
  rw [if_neg c4]
  by_cases c5 : pxBeh s (pxOn s (pxWh s p).2.1) L 0 = -1
  · rw [if_pos c5]; exact z6
  · rw [if_neg c5]; exact z0
section
variable {b j : Nat} {s : List Int} {L : List (Int × List Int)} {t : Int × List Int} {dn call nB came f l : Int} {T : pxTx} {S : pxSto} {rep : Bool} {D : List (Int × pxSn)} {k25 : jw_H → Nat → Int32 → Int32 → Int32 → Int32 → Option (Int32 × jw_H)} {h h4 : jw_H}
theorem s_stepS (F : pxF pxQP h h4) (PR : pxPr h4 b s L) (e : L[j]? = some t) (ste : pxSteer (pxAc s t.1) = true) (G : pxGS nB h4 T S rep came) (HN : pxHN h4 D T) (B : pxSSX h4 538) (Rn : (pxWh s t.1).2.2.1 ≠ 0 → pxRn h4 f l) (m14 : pxM h4 559 14 = ((pxCnt (L.take (j + 1)) : Nat) : Int)) (c0 : -2147483648 ≤ call) (c1 : call ≤ 2147483647) (d0 : 0 ≤ dn) (d1 : dn ≤ 60) :
    ((pxStr s L j t.1 f l T rep).1 = 0 → ∃ h', (jw_b2 (f_X10_steer (jw_setI h4 559 16 (pxJ 0)) 559 (some (12 + 4 * pxCnt (L.take j)))) fun w10 h9 => (jw_pI h9 10 (some 559) 16 w10).bind fun h11 => g_X10_perform_b178 k25 h11 559 (pxJ call) (pxJ dn) (pxJ dn) (some (12 + 4 * pxCnt (L.take j)))) = k25 h' 559 (pxJ call) (pxJ (dn + 1)) (pxJ ((pxCnt (L.take (pxStr s L j t.1 f l T rep).2.1) : Nat) : Int)) (pxJ (dn + 1)) ∧ pxF pxQP h h' ∧ pxRS nB h' b s L (pxStr s L j t.1 f l T rep).2.2.1 S (pxStr s L j t.1 f l T rep).2.2.2 came (pxDeed (pxAc s t.1) call T D)) ∧
    ((pxStr s L j t.1 f l T rep).1 ≠ 0 → ∃ h', (jw_b2 (f_X10_steer (jw_setI h4 559 16 (pxJ 0)) 559 (some (12 + 4 * pxCnt (L.take j)))) fun w10 h9 => (jw_pI h9 10 (some 559) 16 w10).bind fun h11 => g_X10_perform_b178 k25 h11 559 (pxJ call) (pxJ dn) (pxJ dn) (some (12 + 4 * pxCnt (L.take j)))) = some (pxJ dn, h') ∧ pxRE nB h h' T S D (pxStr s L j t.1 f l T rep).1) := by
  have F5 : pxF (fun k f => k = 559 ∧ f = 16) h4 (jw_setI h4 559 16 (pxJ 0)) := pxF.setI ⟨rfl, rfl⟩
  have PR5 := PR.fb F5 (fun k f z => by omega)
  have G5 := G.fr F5 (fun k f z => by omega)
  obtain ⟨h6, e6, F6, G6, m146⟩ := s_X10_steer (f := f) (l := l) PR5 e ste G5 (fun z => ⟨by rw [F5.m (by omega)]; exact (Rn z).1, by rw [F5.m (by omega)]; exact (Rn z).2⟩) (by rw [F5.m (by omega)]; exact m14)
  have rb := pxStr_b (s := s) (L := L) (j := j) (p := t.1) (f := f) (l := l) (T := T) (rep := rep)
  generalize pxStr s L j t.1 f l T rep = r at *
  have w06 := G6.1.1.1
  have F7 : pxF (fun k f => k = 559 ∧ f = 16) h6 (jw_setI h6 559 16 (pxJ r.1)) := pxF.setI ⟨rfl, rfl⟩
  have F47 : pxF (fun k f => (k = 559 ∧ f = 16) ∨ pxQS k f) h4 (jw_setI h6 559 16 (pxJ r.1)) := ((F5.mono (fun k f z => Or.inl z)).trans (F6.mono (fun k f z => Or.inr z))).trans (F7.mono (fun k f z => Or.inl z))
  have F7' : pxF pxQP h (jw_setI h6 559 16 (pxJ r.1)) := F.trans (F47.mono (fun k f z => by unfold pxQS at z; unfold pxQP pxQH pxQG pxQA; omega))
  have PR7 := PR.fb F47 (fun k f z => by unfold pxQS; omega)
  have HN7 := HN.fr F47 (fun k f z => by unfold pxQS; omega)
  have B7 := B.fr F47 (fun k f _ _ => by unfold pxQS; omega)
  have G7 := G6.fr F7 (fun k f z => by omega)
  have M7 : pxM (jw_setI h6 559 16 (pxJ r.1)) 559 16 = r.1 := pxM_eq (by omega) (by omega)
  have OC7 := (PR7.at e).1
  have t57 := (OC7.2.2.1.1.2.2.2.2.2.2.2 _ OC7.2.1).2.1
  have st : (jw_b2 (f_X10_steer (jw_setI h4 559 16 (pxJ 0)) 559 (some (12 + 4 * pxCnt (L.take j)))) fun w10 h9 => (jw_pI h9 10 (some 559) 16 w10).bind fun h11 => g_X10_perform_b178 k25 h11 559 (pxJ call) (pxJ dn) (pxJ dn) (some (12 + 4 * pxCnt (L.take j)))) = g_X10_perform_b178 k25 (jw_setI h6 559 16 (pxJ r.1)) 559 (pxJ call) (pxJ dn) (pxJ dn) (some (12 + 4 * pxCnt (L.take j))) := by
    rw [e6, px_b2, px_pI w06]
    rfl
  rw [st]
  refine ⟨fun z => ?_, fun z => ?_⟩
  · exact s_good F7' PR7 G7 HN7 B7 t57 OC7.2.2.2.1.2.2.2.1 (by rw [M7]; exact z) (by rw [F7.m (by omega)]; exact m146 z) c0 c1 d0 d1
  · exact s_bad F7' ⟨_, G7.1⟩ ⟨_, G7.2.1⟩ G7.2.2.1 HN7 B7 G.2.2.2.1 G.2.2.2.2.1 (by have := G.2.2.2.2.2.2.2; omega) t57 M7 z c0 c1 d0 d1
theorem s_stepG (F : pxF pxQP h h4) (PR : pxPr h4 b s L) (e : L[j]? = some t) (cc : pxAc s t.1 = 103 ∨ pxAc s t.1 = 71 ∨ pxAc s t.1 = 123) (G : pxGS nB h4 T S rep came) (HN : pxHN h4 D T) (B : pxSSX h4 538) (Rn : pxRn h4 f l) (rg : pxRgOk (pxAc s t.1) f l T.1.length) (m14 : pxM h4 559 14 = ((pxCnt (L.take (j + 1)) : Nat) : Int)) (c0 : -2147483648 ≤ call) (c1 : call ≤ 2147483647) (d0 : 0 ≤ dn) (d1 : dn ≤ 60) :
    ((pxGp s t.1 t.2 f l came T S rep).1 = 0 → ∃ h', (jw_b2 (f_X10_doGroup (jw_setI h4 559 16 (pxJ 0)) 559 (some (12 + 4 * pxCnt (L.take j))) (pxJ ((pxCnt (L.take j) : Nat) : Int))) fun w9 h8 => (jw_pI h8 10 (some 559) 16 w9).bind fun h10 => g_X10_perform_b178 k25 h10 559 (pxJ call) (pxJ dn) (pxJ dn) (some (12 + 4 * pxCnt (L.take j)))) = k25 h' 559 (pxJ call) (pxJ (dn + 1)) (pxJ ((pxCnt (L.take (j + 1)) : Nat) : Int)) (pxJ (dn + 1)) ∧ pxF pxQP h h' ∧ pxRS nB h' b s L (pxGp s t.1 t.2 f l came T S rep).2.2.1 (pxGp s t.1 t.2 f l came T S rep).2.2.2.1 (pxGp s t.1 t.2 f l came T S rep).2.2.2.2 (pxGp s t.1 t.2 f l came T S rep).2.1 (pxDeed (pxAc s t.1) call T D)) ∧
    ((pxGp s t.1 t.2 f l came T S rep).1 ≠ 0 → ∃ h', (jw_b2 (f_X10_doGroup (jw_setI h4 559 16 (pxJ 0)) 559 (some (12 + 4 * pxCnt (L.take j))) (pxJ ((pxCnt (L.take j) : Nat) : Int))) fun w9 h8 => (jw_pI h8 10 (some 559) 16 w9).bind fun h10 => g_X10_perform_b178 k25 h10 559 (pxJ call) (pxJ dn) (pxJ dn) (some (12 + 4 * pxCnt (L.take j)))) = some (pxJ dn, h') ∧ pxRE nB h h' T S D (pxGp s t.1 t.2 f l came T S rep).1) := by
  have F5 : pxF (fun k f => k = 559 ∧ f = 16) h4 (jw_setI h4 559 16 (pxJ 0)) := pxF.setI ⟨rfl, rfl⟩
  have PR5 := PR.fb F5 (fun k f z => by omega)
  have G5 := G.fr F5 (fun k f z => by omega)
  have B5 := B.fr F5 (fun k f _ _ => by omega)
  obtain ⟨OC5, m95, IQ5, kc5, -⟩ := PR5.at e
  have rg' : 1 ≤ f ∧ f ≤ l + 1 ∧ l ≤ T.1.length := by unfold pxRgOk at rg; omega
  have m65 := PR5.2.2.2.1
  have c605 := PR5.2.2.2.2.1
  obtain ⟨y1, y2⟩ := s_X10_doGroup OC5 cc IQ5 m95 m65 (by omega) (by omega) ⟨by rw [F5.m (by omega)]; exact Rn.1, by rw [F5.m (by omega)]; exact Rn.2⟩ rg'.1 rg'.2.1 rg'.2.2 B5 G5
  generalize pxGp s t.1 t.2 f l came T S rep = r at *
  have fin : ∀ (h6 : jw_H) (z : Int), -1000 ≤ z → z ≤ 1000 → f_X10_doGroup (jw_setI h4 559 16 (pxJ 0)) 559 (some (12 + 4 * pxCnt (L.take j))) (pxJ ((pxCnt (L.take j) : Nat) : Int)) = some (pxJ z, h6) → pxF pxQH (jw_setI h4 559 16 (pxJ 0)) h6 → pxSSX h6 538 → pxF (fun k f => k = 559 ∧ f = 16) h6 (jw_setI h6 559 16 (pxJ z)) ∧ pxF pxQP h (jw_setI h6 559 16 (pxJ z)) ∧ pxPr (jw_setI h6 559 16 (pxJ z)) b s L ∧ pxHN (jw_setI h6 559 16 (pxJ z)) D T ∧ pxSSX (jw_setI h6 559 16 (pxJ z)) 538 ∧ pxM (jw_setI h6 559 16 (pxJ z)) 559 16 = z ∧ (jw_t (jw_setI h6 559 16 (pxJ z)) (12 + 4 * pxCnt (L.take j))).1 = 5 ∧ pxM (jw_setI h6 559 16 (pxJ z)) (12 + 4 * pxCnt (L.take j)) 3 = pxAc s t.1 ∧ pxM (jw_setI h6 559 16 (pxJ z)) 559 14 = ((pxCnt (L.take (j + 1)) : Nat) : Int) ∧ (jw_b2 (f_X10_doGroup (jw_setI h4 559 16 (pxJ 0)) 559 (some (12 + 4 * pxCnt (L.take j))) (pxJ ((pxCnt (L.take j) : Nat) : Int))) fun w9 h8 => (jw_pI h8 10 (some 559) 16 w9).bind fun h10 => g_X10_perform_b178 k25 h10 559 (pxJ call) (pxJ dn) (pxJ dn) (some (12 + 4 * pxCnt (L.take j)))) = g_X10_perform_b178 k25 (jw_setI h6 559 16 (pxJ z)) 559 (pxJ call) (pxJ dn) (pxJ dn) (some (12 + 4 * pxCnt (L.take j))) := by
    intro h6 z z0 z1 e6 F6 B6
    have F7 : pxF (fun k f => k = 559 ∧ f = 16) h6 (jw_setI h6 559 16 (pxJ z)) := pxF.setI ⟨rfl, rfl⟩
    have F47 : pxF (fun k f => (k = 559 ∧ f = 16) ∨ pxQH k f) h4 (jw_setI h6 559 16 (pxJ z)) := ((F5.mono (fun k f z => Or.inl z)).trans (F6.mono (fun k f z => Or.inr z))).trans (F7.mono (fun k f z => Or.inl z))
    have PR7 := PR.fb F47 (fun k f z => by unfold pxQH pxQG pxQA; omega)
    have OC7 := (PR7.at e).1
    have w06 : (jw_t h6 559).1 = 10 := by rw [F6.t, F5.t]; exact G.1.1.1
    refine ⟨F7, F.trans (F47.mono (fun k f z => z.elim (fun y => Or.inr (Or.inl ⟨y.1, Or.inr y.2⟩)) (fun y => Or.inl y))), PR7, HN.fr F47 (fun k f z => by unfold pxQH pxQG pxQA; omega), B6.fr F7 (fun k f _ _ => by omega), pxM_eq (by omega) (by omega), (OC7.2.2.1.1.2.2.2.2.2.2.2 _ OC7.2.1).2.1, OC7.2.2.2.1.2.2.2.1, by rw [F47.m (by unfold pxQH pxQG pxQA; omega)]; exact m14, ?_⟩
    rw [e6, px_b2, px_pI w06]
    rfl
  refine ⟨fun z => ?_, fun z => ?_⟩
  · obtain ⟨h6, e6, F6, B6, G6⟩ := y1 z
    obtain ⟨F7, FF, PR7, HN7, B7, M7, t57, f37, m147, st⟩ := fin h6 0 (by omega) (by omega) e6 F6 B6
    rw [st]
    exact s_good FF PR7 (G6.fr F7 (fun k f z => by omega)) HN7 B7 t57 f37 M7 m147 c0 c1 d0 d1
  · obtain ⟨h6, e6, F6, B6, ⟨⟨rep', A6⟩, ⟨T', I6⟩, Y6⟩, q1, q2⟩ := y2 z
    obtain ⟨F7, FF, PR7, HN7, B7, M7, t57, f37, m147, st⟩ := fin h6 r.1 (by omega) (by omega) e6 F6 B6
    rw [st]
    exact s_bad FF ⟨rep', A6.fr F7 (fun k f z => by omega)⟩ ⟨T', pxIT.fr I6 F7 (fun k f _ _ => by omega)⟩ (pxIS.fr Y6 F7 (fun k f _ _ => by omega)) HN7 B7 G.2.2.2.1 G.2.2.2.2.1 (by have := G.2.2.2.2.2.2.2; omega) t57 M7 z c0 c1 d0 d1
theorem s_stepO (F : pxF pxQP h h4) (PR : pxPr h4 b s L) (e : L[j]? = some t) (ns : ¬ (pxAc s t.1 = 103 ∨ pxAc s t.1 = 71 ∨ pxAc s t.1 = 123 ∨ pxSteer (pxAc s t.1) = true)) (G : pxGS nB h4 T S rep (came + 1)) (ca : 0 ≤ came) (nb1 : T.2.2.2 + 40 * (60 - came) ≤ nB) (HN : pxHN h4 D T) (B : pxSSX h4 538) (Rn : pxRn h4 f l) (rg : pxRgOk (pxAc s t.1) f l T.1.length) (m14 : pxM h4 559 14 = ((pxCnt (L.take (j + 1)) : Nat) : Int)) (c0 : -2147483648 ≤ call) (c1 : call ≤ 2147483647) (d0 : 0 ≤ dn) (d1 : dn ≤ 60) :
    ((pxDo s (pxWh s t.1).2.1 f l T S rep).1.1 = 0 → ∃ h', (jw_b2 (f_X10_doOne (jw_setI h4 559 16 (pxJ 0)) 559 (some (12 + 4 * pxCnt (L.take j)))) fun w5 h4 => (jw_pI h4 10 (some 559) 16 w5).bind fun h6 => g_X10_perform_b178 k25 h6 559 (pxJ call) (pxJ dn) (pxJ dn) (some (12 + 4 * pxCnt (L.take j)))) = k25 h' 559 (pxJ call) (pxJ (dn + 1)) (pxJ ((pxCnt (L.take (j + 1)) : Nat) : Int)) (pxJ (dn + 1)) ∧ pxF pxQP h h' ∧ pxRS nB h' b s L (pxDo s (pxWh s t.1).2.1 f l T S rep).1.2.1 (pxDo s (pxWh s t.1).2.1 f l T S rep).1.2.2 (pxDo s (pxWh s t.1).2.1 f l T S rep).2 (came + 1) (pxDeed (pxAc s t.1) call T D)) ∧
    ((pxDo s (pxWh s t.1).2.1 f l T S rep).1.1 ≠ 0 → ∃ h', (jw_b2 (f_X10_doOne (jw_setI h4 559 16 (pxJ 0)) 559 (some (12 + 4 * pxCnt (L.take j)))) fun w5 h4 => (jw_pI h4 10 (some 559) 16 w5).bind fun h6 => g_X10_perform_b178 k25 h6 559 (pxJ call) (pxJ dn) (pxJ dn) (some (12 + 4 * pxCnt (L.take j)))) = some (pxJ dn, h') ∧ pxRE nB h h' T S D (pxDo s (pxWh s t.1).2.1 f l T S rep).1.1) := by
  have F5 : pxF (fun k f => k = 559 ∧ f = 16) h4 (jw_setI h4 559 16 (pxJ 0)) := pxF.setI ⟨rfl, rfl⟩
  have PR5 := PR.fb F5 (fun k f z => by omega)
  have G5 := G.fr F5 (fun k f z => by omega)
  obtain ⟨A5, I5, Y5, IV, IS, m155, ca50, ca51, nb5⟩ := G5
  have OC5 := (PR5.at e).1
  have n3 : ¬ (pxAc s t.1 = 123 ∨ pxAc s t.1 = 103 ∨ pxAc s t.1 = 71) := fun z => ns (by omega)
  have nst : ¬ (pxP s (pxWh s t.1).2.1 = 58 ∨ pxP s (pxWh s t.1).2.1 = 98 ∨ pxP s (pxWh s t.1).2.1 = 84 ∨ pxP s (pxWh s t.1).2.1 = 113 ∨ pxP s (pxWh s t.1).2.1 = 78) := fun z => ns (Or.inr (Or.inr (Or.inr (pxSteer_i.mpr z))))
  have co := OC5.co n3
  have gd : pxGood T (pxDo s (pxWh s t.1).2.1 f l T S rep).1 := pxGood_do IV IS co.2.2.2.2.2.2.1 co.2.2.2.2.2.2.2 OC5.2.2.1.2.2.2.2.1.1 co.2.2.2.2.1 nst (fun z => n3 (by unfold pxAc; omega)) rg
  have ob := pxDo_b (s := s) (p := (pxWh s t.1).2.1) (f := f) (l := l) (S := S) (rep := rep) IV.now IV.1
  obtain ⟨q, h6, e6, F6, eq, TR, rep2, A6, erep⟩ := s_X10_doOne ns ⟨co, A5, ⟨by rw [F5.m (by omega)]; exact Rn.1, by rw [F5.m (by omega)]; exact Rn.2⟩, I5, Y5, IV.now, IV.2.2.2.2.2.1, by omega, rg⟩
  rw [eq] at e6
  generalize pxDo s (pxWh s t.1).2.1 f l T S rep = r at *
  have w06 := A6.1.1
  have F7 : pxF (fun k f => k = 559 ∧ f = 16) h6 (jw_setI h6 559 16 (pxJ r.1.1)) := pxF.setI ⟨rfl, rfl⟩
  have F47 : pxF (fun k f => (k = 559 ∧ f = 16) ∨ pxQA k f) h4 (jw_setI h6 559 16 (pxJ r.1.1)) := ((F5.mono (fun k f z => Or.inl z)).trans (F6.mono (fun k f z => Or.inr z))).trans (F7.mono (fun k f z => Or.inl z))
  have F7' : pxF pxQP h (jw_setI h6 559 16 (pxJ r.1.1)) := F.trans (F47.mono (fun k f z => by unfold pxQA at z; unfold pxQP pxQH pxQG pxQA; omega))
  have PR7 := PR.fb F47 (fun k f z => by unfold pxQA; omega)
  have HN7 := HN.fr F47 (fun k f z => by unfold pxQA; omega)
  have B7 := B.fr F47 (fun k f _ _ => by unfold pxQA; omega)
  have A7 := A6.fr F7 (fun k f z => by omega)
  have M7 : pxM (jw_setI h6 559 16 (pxJ r.1.1)) 559 16 = r.1.1 := pxM_eq (by omega) (by omega)
  have OC7 := (PR7.at e).1
  have t57 := (OC7.2.2.1.1.2.2.2.2.2.2.2 _ OC7.2.1).2.1
  have st : (jw_b2 (f_X10_doOne (jw_setI h4 559 16 (pxJ 0)) 559 (some (12 + 4 * pxCnt (L.take j)))) fun w5 h4 => (jw_pI h4 10 (some 559) 16 w5).bind fun h6 => g_X10_perform_b178 k25 h6 559 (pxJ call) (pxJ dn) (pxJ dn) (some (12 + 4 * pxCnt (L.take j)))) = g_X10_perform_b178 k25 (jw_setI h6 559 16 (pxJ r.1.1)) 559 (pxJ call) (pxJ dn) (pxJ dn) (some (12 + 4 * pxCnt (L.take j))) := by
    rw [e6, px_b2, px_pI w06]
    rfl
  rw [st]
  refine ⟨fun z => ?_, fun z => ?_⟩
  · obtain ⟨I6, Y6⟩ := TR.1 z
    obtain ⟨g1, g2, g3⟩ := gd z
    have G7 : pxGS nB (jw_setI h6 559 16 (pxJ r.1.1)) r.1.2.1 r.1.2.2 r.2 (came + 1) := ⟨by rw [← erep z]; exact A7, pxIT.fr I6 F7 (fun k f _ _ => by omega), pxIS.fr Y6 F7 (fun k f _ _ => by omega), g1, g3, by rw [F7.m (by omega), F6.m (by unfold pxQA; omega)]; exact m155, ca50, ca51, by omega, nb5.2⟩
    exact s_good F7' PR7 G7 HN7 B7 t57 OC7.2.2.2.1.2.2.2.1 (by rw [M7]; exact z) (by rw [F47.m (by unfold pxQA; omega)]; exact m14) c0 c1 d0 d1
  · obtain ⟨⟨T', I6⟩, Y6⟩ := TR.2 z
    exact s_bad F7' ⟨_, A7⟩ ⟨T', pxIT.fr I6 F7 (fun k f _ _ => by omega)⟩ (pxIS.fr Y6 F7 (fun k f _ _ => by omega)) HN7 B7 IV IS (by omega) t57 M7 z c0 c1 d0 d1
end
