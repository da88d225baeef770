/-! the class: plays line by line -/
section
variable {h : jw_H} {α : pzA} {n : Int}
def pxQLb : Nat → Nat → Prop := fun k f => (12 ≤ k ∧ k ≤ 251 ∧ k % 4 = 0 ∧ 10 ≤ f) ∨ (255 ≤ k ∧ k ≤ 281) ∨ (531 ≤ k ∧ k ≤ 558) ∨ (571 ≤ k ∧ k ≤ 586)
theorem pxQL_b {k f : Nat} (z : pxQL k f) : pxQLb k f := by
  unfold pxQL pxQD pxQB at z
  unfold pxQLb
  omega
theorem c_stream {k : Int} (A : pwA h α) (O : pzOk n α) (k0 : -2147483648 ≤ k) (k1 : k ≤ 2147483647) : pxW (f_X11_stream h 0 (pxJ k)) fun v h' => pwY "java/lang/IndexOutOfBoundsException" "java/lang/IllegalStateException" h (pz_stream k α) v h' := by
  have C := A.1
  have X := A.2.2.2.2.2.2.2.2
  obtain ⟨-, -, IV, IS, -, -, i1, i2, i3, -⟩ := id O
  unfold f_X11_stream pz_stream
  rw [px_rc C.1, px_bs, c_noScript k0 k1, px_b2]
  by_cases c : 0 ≤ k ∧ k < 4
  · obtain ⟨a, b⟩ := A.2.2.1 k c.1 c.2
    rw [if_pos c, if_pos (show pxJ 0 = 0 from rfl), if_neg (show ¬ ¬ (0 ≤ k ∧ k < 4) from fun z => z c), C.r (2, 7) (by decide), px_bs, C.s7 c.1 c.2, px_bs]
    cases e : α.2.1 k with
    | none =>
      rw [a e, if_pos (show pxJ (-1) = (-1 : Int32) by decide)]
      exact pxW_some.mpr (pwY_2 A)
    | some s =>
      obtain ⟨T, ok⟩ := pyOk4 O c.1 c.2 e
      have l60 := T.1
      obtain ⟨h1, er, F, G, q⟩ := s_X6_readOrders X.1 (A.tas c.1 c.2 e T)
      obtain ⟨a1, a2, a3, oz, a5⟩ := q ok
      rw [(b s e).1, if_neg (show ¬ (pxJ (s.length : Int) = (-1 : Int32)) from fun z => by
        rw [show (-1 : Int32) = pxJ (-1) by decide] at z
        have := (pxJ_eq (a := (s.length : Int)) (b := -1) (by omega) (by omega) (by omega) (by omega)).mp z
        omega), C.r (5, 10) (by decide), px_bs, C.r (1, 2) (by decide), px_bs, C.s2 c.1 c.2, px_bs, px_bs, C.s7 c.1 c.2, px_bs, (b s e).1, px_rc X.1.1, px_bs, er, px_b2]
      have PR := c_prog (by omega) G ok q
      have AA := A.qp F G.1
      refine pxW.mono ?_ (fun v h' w => pwY.after F w)
      clear er q
      obtain ⟨C1, Tp1, Sc1, I1, Y1, D1, e13, e14, PS1, ⟨rep, aux⟩, ssx, bx⟩ := AA
      rw [C1.i, px_bs, e13, show pxJ α.2.2.2.2.2.1 + (1 : Int32) = pxJ (α.2.2.2.2.2.1 + 1) from pxJ_add _ 1, px_pI C1.1, px_bs]
      have F2 : pxF (fun k f => k = 0 ∧ f = 13) h1 (jw_setI h1 0 13 (pxJ (α.2.2.2.2.2.1 + 1))) := pxF.setI ⟨rfl, rfl⟩
      have f13 : pxM (jw_setI h1 0 13 (pxJ (α.2.2.2.2.2.1 + 1))) 0 13 = α.2.2.2.2.2.1 + 1 := pxM_eq (by omega) (by omega)
      generalize jw_setI h1 0 13 (pxJ (α.2.2.2.2.2.1 + 1)) = h2 at *
      have C2 : pwC h2 := C1.fr F2 (fun f _ => by omega) (fun f => by omega)
      have D2 : pxHI h2 α.2.2.2.2.1 := D1.fr F2 (fun k f z => by omega)
      have I2 : pxIX h2 α.2.2.1 := pxIT.fr I1 F2 (fun k f _ _ => by omega)
      obtain ⟨B2, S2, -⟩ := id D2
      rw [C2.r (11, 282) (by decide), px_bs, C2.r (6, 255) (by decide), px_bs, px_rc S2.1, px_bs]
      refine pxW_b2 (s_X3_note D2 I2) fun _ h3 q => ?_
      obtain ⟨F3, N3⟩ := q
      have F13 : pxF (fun k f => (k = 0 ∧ f = 13) ∨ (282 ≤ k ∧ k ≤ 530)) h1 h3 := (F2.mono (fun k f z => Or.inl z)).trans (F3.mono (fun k f z => Or.inr (by omega)))
      have C3 : pwC h3 := C1.fr F13 (fun f _ => by omega) (fun f => by omega)
      have PR3 : pxPr h3 (3 + k.toNat) s (pxOrds s 61 0).2 := by
        obtain ⟨p1, p2, p3, p4, p5, p6, p7⟩ := PR
        exact ⟨p1, ⟨p2.1.fr F13 (fun k f z => by omega), p2.2.fr F13 (by omega) (by omega) (fun f => by omega)⟩, pxAll.fr F13 (fun k f z _ => by omega) (by rw [F13.m (by omega)]; exact Int.le_refl _) _ 0 p3 (fun k f _ _ _ => by omega), by rw [F13.m (by omega)]; exact p4, p5, by rw [F13.m (by omega)]; exact p6, p7⟩
      have aux3 := aux.fr F13 (fun k f z => by omega)
      have bx3 := bx.fr F13 (fun k f z => by omega)
      have ssx3 := ssx.fr F13 (fun k f _ _ => by omega)
      obtain ⟨h4, e4, Z⟩ := s_X1_perform (T := α.2.2.1) (S := α.2.2.2.1) PR3 (fun j hj f f0 f1 => by rw [F13.m (by omega)]; exact oz j hj f f0 f1) bx3 aux3.2.1 aux3.2.2.1 (pxIT.fr I1 F13 (fun k f _ _ => by omega)) (pxIS.fr Y1 F13 (fun k f _ _ => by omega)) ssx3 IV.2.2.2.2.2.1 (by omega) ⟨rep, aux3.2.2.2.2.2⟩
      obtain ⟨F4, bx4, ms4, hs4, I4, Y4, ssx4, m15, ⟨rep4, r4⟩⟩ := Z
      have F4' : pxF pxQLb h3 h4 := F4.mono (fun k f z => pxQL_b z)
      have C4 : pwC h4 := C3.fr F4' (fun f _ => by unfold pxQLb; omega) (fun f => by unfold pxQLb; omega)
      have N4 : pxHN h4 α.2.2.2.2.1 α.2.2.1 := N3.fr F4' (fun k f z => by unfold pxQLb; omega)
      have lo := pxM_lo h4 571 15
      have hi := pxM_hi h4 571 15
      rw [m15] at lo hi
      rw [C3.r (10, 571) (by decide), px_bs, px_rc bx3.1.1, px_bs, e4, px_b2, C4.r (10, 571) (by decide), px_bs, px_gI bx4.1.1, px_bs, m15, px_pI C4.1, px_bs]
      have F5 : pxF (fun k f => k = 0 ∧ f = 14) h4 (jw_setI h4 0 14 (pxJ (pzPlyR s α).2.1)) := pxF.setI ⟨rfl, rfl⟩
      have f14 : pxM (jw_setI h4 0 14 (pxJ (pzPlyR s α).2.1)) 0 14 = (pzPlyR s α).2.1 := pxM_eq lo hi
      have eR : pxBPlay s (pxOrds s 61 0).2 α.2.2.1 α.2.2.2.1 = pzPlyR s α := rfl
      rw [eR] at I4 Y4 m15 lo hi ⊢
      generalize jw_setI h4 0 14 (pxJ (pzPlyR s α).2.1) = h5 at *
      have C5 : pwC h5 := C4.fr F5 (fun f _ => by omega) (fun f => by omega)
      have N5 : pxHN h5 α.2.2.2.2.1 α.2.2.1 := N4.fr F5 (fun k f z => by omega)
      have F15 : pxF (fun k f => (k = 0 ∧ (f = 13 ∨ f = 14)) ∨ (282 ≤ k ∧ k ≤ 530) ∨ pxQLb k f) h1 h5 := ((F13.mono (fun k f z => by omega)).trans (F4'.mono (fun k f z => Or.inr (Or.inr z)))).trans (F5.mono (fun k f z => by omega))
      have g13 : pxM h5 0 13 = α.2.2.2.2.2.1 + 1 := by rw [F5.m (by omega), F4'.m (by unfold pxQLb; omega), F3.m (by omega)]; exact f13
      have rest : ∀ h6, pxF (fun k f => k = 282 ∨ k = 284) h5 h6 → pxHI h6 (if (pzPlyR s α).2.1 = 0 then pxPush α.2.2.2.2.1 (α.2.2.2.2.2.1 + 1, pxSnap α.2.2.1) else α.2.2.2.2.1) → pwY "java/lang/IndexOutOfBoundsException" "java/lang/IllegalStateException" h1 (pzPly s α) (.inl (pxJ (pzPlyR s α).1)) h6 := by
        intro h6 F6 D6
        have F16 := (F15.mono (Q := fun k f => (k = 0 ∧ (f = 13 ∨ f = 14)) ∨ (282 ≤ k ∧ k ≤ 530) ∨ pxQLb k f) (fun k f z => z)).trans (F6.mono (fun k f z => Or.inr (Or.inl (by omega))))
        have F46 : pxF (fun k f => (k = 0 ∧ f = 14) ∨ k = 282 ∨ k = 284) h4 h6 := (F5.mono (fun k f z => Or.inl z)).trans (F6.mono (fun k f z => Or.inr z))
        refine pwY_0 (pwF.of F16 (fun k f z => by unfold pxQLb at z; omega)) ⟨C5.fr F6 (fun f _ => by omega) (fun f => by omega), Tp1.fr F16 (by unfold pxQLb; omega) (fun f => by unfold pxQLb; omega), Sc1.fr F16 (fun k f _ _ => by unfold pxQLb; omega), pxIT.fr I4 F46 (fun k f _ _ => by omega), pxIS.fr Y4 F46 (fun k f _ _ => by omega), D6, by rw [F6.m (by omega)]; exact g13, by rw [F6.m (by omega)]; exact f14, PS1.fr F16 (fun k f z => by unfold pxQLb; omega), ⟨rep4, aux.1.fr F16 (fun f _ => by unfold pxQLb; omega), ms4.fr F46 (fun f _ => by omega), hs4.fr F46 (fun f _ => by omega), ?_, aux.2.2.2.2.1.fr F16 (fun k f _ _ => by unfold pxQLb; omega), by rw [F46.m (by omega)]; exact r4⟩, ssx4.fr F46 (fun k f _ _ => by omega), bx4.fr F46 (fun k f z => by omega)⟩
        obtain ⟨rs, hr⟩ := aux.2.2.2.1
        exact ⟨rs, hr.fr F16 (fun k f _ _ => by unfold pxQLb; omega)⟩
      rw [C5.i, px_bs, f14]
      by_cases d : (pzPlyR s α).2.1 = 0
      · obtain ⟨B5, S5, -⟩ := id N5
        rw [if_pos (show pxJ (pzPlyR s α).2.1 = 0 by rw [d]; rfl), C5.r (11, 282) (by decide), px_bs, C5.i, px_bs, g13, px_rc S5.1.1, px_bs]
        obtain ⟨h6, e6, F6, D6⟩ := s_X3_store (c := α.2.2.2.2.2.1 + 1) N5 (by omega) (by omega)
        rw [e6, px_b2]
        exact pxW_some.mpr (rest h6 F6 (by rw [if_pos d]; exact D6))
      · rw [if_neg (show ¬ (pxJ (pzPlyR s α).2.1 = 0) from fun z => d ((pxJ_eq (a := (pzPlyR s α).2.1) (b := 0) lo hi (by omega) (by omega)).mp z))]
        refine pxW_some.mpr (rest h5 pxF.rfl ?_)
        rw [if_neg d]
        obtain ⟨B5, S5, -⟩ := N5
        exact ⟨B5, S5⟩
  · rw [if_neg c, if_neg (show ¬ (pxJ 1 = 0) by decide), if_pos c]
    exact pxW_some.mpr (pwY_1 A)
end
