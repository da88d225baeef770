/-! the class: runs -/
section
variable {h : jw_H} {α : pzA} {n : Int}
theorem pxQP_b {k f : Nat} (z : pxQP k f) : 255 ≤ k ∧ k ≤ 570 := by
  unfold pxQP pxQH pxQG pxQA at z
  omega
theorem c_runs {E1 E2 : String} {b : Nat} {s : List Int} (b1 : 1 ≤ b) (A : pwA h α) (O : pzOk n α) (PR : pxPr h b s (pxOrds s 61 0).2) :
    pxW ((jw_gI h 11 (some 0) 13).bind fun v8 => (jw_pI h 11 (some 0) 13 (v8 + (1 : Int32))).bind fun h9 => (jw_gR h9 11 (some 0) 9).bind fun v10 => (jw_gI h9 11 (some 0) 13).bind fun v11 => (jw_rc h9 10 v10).bind fun a12 => jw_b2 (f_X10_perform h9 a12 v11) fun w14 h13 => (jw_gR h13 11 (some 0) 9).bind fun v15 => (jw_gI h13 10 v15 16).bind fun v16 => (jw_pI h13 11 (some 0) 14 v16).bind fun h17 => some ((Sum.inl w14 : Int32 ⊕ String), h17)) fun v h' => pwY E1 E2 h (pzRun s α) v h' := by
  obtain ⟨C, Tp, Sc, I, Y, D, e13, e14, X⟩ := A
  obtain ⟨-, -, IV, IS, -, -, i1, i2, i3, -⟩ := O
  have F1 : pxF (fun k f => k = 0 ∧ f = 13) h (jw_setI h 0 13 (pxJ (α.2.2.2.2.2.1 + 1))) := pxF.setI ⟨rfl, rfl⟩
  have f13 : pxM (jw_setI h 0 13 (pxJ (α.2.2.2.2.2.1 + 1))) 0 13 = α.2.2.2.2.2.1 + 1 := pxM_eq (by omega) (by omega)
  rw [C.i, px_bs, e13, show pxJ α.2.2.2.2.2.1 + (1 : Int32) = pxJ (α.2.2.2.2.2.1 + 1) from pxJ_add _ 1, px_pI C.1, px_bs]
  generalize jw_setI h 0 13 (pxJ (α.2.2.2.2.2.1 + 1)) = h1 at *
  have C1 : pwC h1 := C.fr F1 (fun f _ => by omega) (fun f => by omega)
  have Tp1 : pwTp h1 α.1 := Tp.fr F1 (by omega) (fun f => by omega)
  have Sc1 : pwSc h1 α.2.1 := Sc.fr F1 (fun k f _ _ => by omega)
  have X1 : pwX h1 := X.fr F1 (fun k f _ _ => by omega)
  have I1 : pxIX h1 α.2.2.1 := pxIT.fr I F1 (fun k f _ _ => by omega)
  have Y1 : pxIY h1 α.2.2.2.1 := pxIS.fr Y F1 (fun k f _ _ => by omega)
  have D1 : pxHI h1 α.2.2.2.2.1 := D.fr F1 (fun k f z => by omega)
  have g14 : pxM h1 0 14 = α.2.2.2.2.2.2 := by rw [F1.m (by omega)]; exact e14
  obtain ⟨PS1, ⟨rep, aux⟩, ssx, bx⟩ := X1
  have PR1 : pxPr h1 b s (pxOrds s 61 0).2 := by
    obtain ⟨a1, a2, a3, a4, a5, a6, a7⟩ := PR
    exact ⟨a1, ⟨a2.1.fr F1 (fun k f z => by omega), a2.2.fr F1 (by omega) (by omega) (fun f => by omega)⟩, pxAll.fr F1 (fun k f z _ => by omega) (by rw [F1.m (by omega)]; exact Int.le_refl _) _ 0 a3 (fun k f _ _ _ => by omega), by rw [F1.m (by omega)]; exact a4, a5, by rw [F1.m (by omega)]; exact a6, a7⟩
  obtain ⟨h2, e, E, q0, q1⟩ := s_X10_perform (nB := 2400 * n + 2400) (call := α.2.2.2.2.2.1 + 1) PR1 aux I1 Y1 IV IS D1 ssx (by omega) (by omega) (by omega) (by omega)
  obtain ⟨F2, ⟨rep2, aux2⟩, I2, Y2, D2, ssx2, m16, -⟩ := E
  have F2' : pxF (fun k _ => 255 ≤ k ∧ k ≤ 570) h1 h2 := F2.mono (fun k f z => pxQP_b z)
  have C2 : pwC h2 := C1.fr F2' (fun f _ => by omega) (fun f => by omega)
  rw [C1.r (9, 559) (by decide), px_bs, C1.i, px_bs, f13, px_rc aux.1.1, px_bs, e, px_b2, C2.r (9, 559) (by decide), px_bs, px_gI aux2.1.1, px_bs, m16, px_pI C2.1, px_bs]
  have F3 : pxF (fun k f => k = 0 ∧ f = 14) h2 (jw_setI h2 0 14 (pxJ (pzRunR s α).2.1)) := pxF.setI ⟨rfl, rfl⟩
  have lo := pxM_lo h2 559 16
  have hi := pxM_hi h2 559 16
  rw [m16] at lo hi
  have f14 : pxM (jw_setI h2 0 14 (pxJ (pzRunR s α).2.1)) 0 14 = (pzRunR s α).2.1 := pxM_eq lo hi
  have f13' : pxM (jw_setI h2 0 14 (pxJ (pzRunR s α).2.1)) 0 13 = α.2.2.2.2.2.1 + 1 := by
    rw [F3.m (by omega), F2'.m (by omega)]
    exact f13
  refine pxW_some.mpr (pwY_0 (α' := (pzRun s α).2.2) (v := (pzRun s α).2.1) ?_ ?_)
  · exact pwF.of (((F1.mono (fun k f z => (by omega : k ≤ 586))).trans (F2'.mono (fun k f z => (by omega : k ≤ 586)))).trans (F3.mono (fun k f z => (by omega : k ≤ 586)))) (fun k f z => z)
  · refine ⟨C2.fr F3 (fun f _ => by omega) (fun f => by omega), (Tp1.fr F2' (by omega) (fun f => by omega)).fr F3 (by omega) (fun f => by omega), (Sc1.fr F2' (fun k f _ _ => by omega)).fr F3 (fun k f _ _ => by omega), pxIT.fr I2 F3 (fun k f _ _ => by omega), pxIS.fr Y2 F3 (fun k f _ _ => by omega), D2.fr F3 (fun k f z => by omega), ?_, f14, ?_⟩
    · exact f13'
    · exact pwX.fr ⟨PS1.fr F2' (fun k f z => by omega), ⟨rep2, aux2⟩, ssx2, bx.fr F2' (fun k f z => by omega)⟩ F3 (fun k f _ _ => by omega)
theorem c_prog {h' : jw_H} {b : Nat} {s : List Int} (b10 : b < 10) (G : pxPG h' b s) (ok : (pxOrds s 61 0).1 = -1) (q : (pxOrds s 61 0).1 = -1 → pxAll h' s 0 (pxOrds s 61 0).2 ∧ pxM h' 10 6 = (pxCnt (pxOrds s 61 0).2 : Int) ∧ pxCnt (pxOrds s 61 0).2 ≤ 60 ∧ (∀ k, k < pxCnt (pxOrds s 61 0).2 → pxOz h' k) ∧ pxM h' 10 7 ≤ 120) : pxPr h' b s (pxOrds s 61 0).2 := by
  obtain ⟨a1, a2, a3, -, a5⟩ := q ok
  exact ⟨b10, G, a1, a2, a3, a5, pxOrds_v 61 0 (by omega) (by omega) ok⟩
theorem c_run (A : pwA h α) (O : pzOk n α) : pxW (f_X11_run h 0) fun v h' => pwY "java/lang/IllegalStateException" "" h (pz_run α) v h' := by
  have X := A.2.2.2.2.2.2.2.2
  obtain ⟨h1, e, F, G, q⟩ := s_X6_readOrders X.1 (A.ta O.1)
  have A1 := A.qp F G.1
  have W1 := pwF.qp F
  have or := pxOrds_r (s := α.1) 61 0 (by omega) (by omega)
  have l60 := O.1.1
  unfold f_X11_run pz_run
  rw [A.1.r (5, 10) (by decide), px_bs, A.1.r (0, 1) (by decide), px_bs, A.1.i, px_bs, A.2.1.1, px_rc X.1.1, px_bs, e, px_b2]
  by_cases c : (pxOrds α.1 61 0).1 = -1
  · rw [if_pos (show pxJ (pxOrds α.1 61 0).1 = (-1 : Int32) by rw [c]; decide), if_pos c]
    refine pxW.mono (c_runs (E1 := "java/lang/IllegalStateException") (E2 := "") (Nat.le_refl 1) A1 O (c_prog (by omega) G c q)) fun v h' w => ?_
    obtain ⟨w1, w2, w3, w4, w5⟩ := w
    exact ⟨⟨by have := W1.1; have := w1.1; omega, by rw [← F.2.1]; exact w1.2.1, by rw [← F.2.2.1]; exact w1.2.2.1, fun k hk => by rw [w1.2.2.2.1 k hk]; exact W1.2.2.2.1 k hk, fun k f a b => by rw [(w1.2.2.2.2 k f a b).1, (w1.2.2.2.2 k f a b).2.1, (w1.2.2.2.2 k f a b).2.2]; exact W1.2.2.2.2 k f a b⟩, w2, w3, w4, w5⟩
  · rw [if_neg (show ¬ (pxJ (pxOrds α.1 61 0).1 = (-1 : Int32)) from fun z => by
      rw [show (-1 : Int32) = pxJ (-1) by decide] at z
      exact c ((pxJ_eq (by omega) (by omega) (by omega) (by omega)).mp z)), if_neg c]
    refine pxW_some.mpr ⟨⟨?_, ?_, ?_, W1.2.2.2.1, W1.2.2.2.2⟩, fun z => absurd z py01.2.2.1, fun _ => rfl, fun z => absurd z py01.2.2.2.1, A1⟩
    · exact W1.1
    · show jw_c h1 + 1 ≤ jw_c h + 1
      rw [F.2.1]; omega
    · show jw_s h1 + 6 ≤ jw_s h + 9
      rw [F.2.2.1]; omega
end
