/-! the class: a run undone -/
section
variable {h : jw_H} {α : pzA} {n : Int}
theorem pwF.tr {h1 h2 : jw_H} {P : Nat → Nat → Prop} (F : pxF P h h1) (n : ∀ k f, P k f → k ≤ 586) (W : pwF h1 h2) : pwF h h2 := by
  have W1 := pwF.of F n
  exact ⟨by have := W1.1; have := W.1; omega, by rw [← F.2.1]; exact W.2.1, by rw [← F.2.2.1]; exact W.2.2.1, fun k hk => by rw [W.2.2.2.1 k hk]; exact W1.2.2.2.1 k hk, fun k f a b => by rw [(W.2.2.2.2 k f a b).1, (W.2.2.2.2 k f a b).2.1, (W.2.2.2.2 k f a b).2.2]; exact W1.2.2.2.2 k f a b⟩
theorem pwD_x {D' : List (Int × pxSn)} {d : Int × pxSn} {D : List (Int × pxSn)} (e : D = D' ++ [d]) : D[D.length - 1]? = some d ∧ 0 < D.length := by
  subst e
  rw [List.length_append, List.length_singleton, show D'.length + 1 - 1 = D'.length by omega, List.getElem?_append_right (Nat.le_refl _), Nat.sub_self]
  exact ⟨rfl, by omega⟩
theorem c_un {D' : List (Int × pxSn)} {d : Int × pxSn} (A : pwA h α) (e : α.2.2.2.2.1 = D' ++ [d]) : pxW (f_X3_takeBack h 282 (some 255)) fun _ h' => pxF (fun k _ => 255 ≤ k ∧ k ≤ 282) h h' ∧ pwA h' (pzUn α) := by
  obtain ⟨C, Tp, Sc, I, Y, D, e13, e14, X⟩ := A
  obtain ⟨hx, hl⟩ := pwD_x e
  refine pxW.mono (s_X3_takeBack D I hx hl) fun _ h2 q => ?_
  obtain ⟨F, I2, D2⟩ := q
  have eu : pzUn α = (α.1, α.2.1, (d.2.1, d.2.2.1, d.2.2.2, α.2.2.1.2.2.2), α.2.2.2.1, D', α.2.2.2.2.2) := by
    unfold pzUn
    rw [e, List.getLast?_concat, List.dropLast_concat]
    rfl
  rw [e, List.dropLast_concat] at D2
  rw [eu]
  refine ⟨F.mono (fun k f z => by unfold pxC at z; omega), C.fr F (fun f _ => by unfold pxC; omega) (fun f => by unfold pxC; omega), Tp.fr F (by unfold pxC; omega) (fun f => by unfold pxC; omega), Sc.fr F (fun k f _ _ => by unfold pxC; omega), I2, pxIS.fr Y F (fun k f _ _ => by unfold pxC; omega), D2, by rw [F.m (by unfold pxC; omega)]; exact e13, by rw [F.m (by unfold pxC; omega)]; exact e14, ?_⟩
  obtain ⟨p, ⟨rep, a⟩, s, b⟩ := X
  exact ⟨p.fr F (fun k f z => by unfold pxC; omega), ⟨rep, a.fr F (fun k f z => by unfold pxC; omega)⟩, s.fr F (fun k f _ _ => by unfold pxC; omega), b.fr F (fun k f z => by unfold pxC; omega)⟩
theorem c_undoRun_b38 {call : Int} (c0 : -2147483648 ≤ call) (c1 : call ≤ 2147483647) : ∀ (m N : Nat) (h : jw_H) (u : Int) (α : pzA), α.2.2.2.2.1.length = m → m ≤ 40 → m < N → pwA h α → (∀ d ∈ α.2.2.2.2.1, -2147483648 ≤ d.1 ∧ d.1 ≤ 2147483647) →
    pxW (f_X11_undoRun_b38 N h 0 (pxJ call) (pxJ u) (pxJ (m : Int))) fun v h' => pwY "java/lang/IllegalStateException" "" h (0, (pzUr call m u α).1, (pzUr call m u α).2) v h' := by
  intro m
  induction m with
  | zero =>
    intro N h u α hl m40 hN A cs
    obtain ⟨N, rfl, hN⟩ := px_fu hN
    rw [u_X11_undoRun_b38]
    unfold g_X11_undoRun_b38
    rw [if_pos (show pxJ ((0 : Nat) : Int) ≤ 0 from Int32.le_refl _)]
    exact pxW_some.mpr (pwY_0 pwF.rfl A)
  | succ m ih =>
    intro N h u α hl m40 hN A cs
    obtain ⟨N, rfl, hN⟩ := px_fu hN
    have C := A.1
    have eU : pzUr call (m + 1) u α = (α.2.2.2.2.1.getLast?).elim (u, α) (fun x => if x.1 = call then pzUr call m (u + 1) (pzUn α) else (u, α)) := rfl
    have ne : α.2.2.2.2.1 ≠ [] := fun z => by rw [z] at hl; cases hl
    obtain ⟨D', d, e⟩ := pyD_end ne
    obtain ⟨hx, hl0⟩ := pwD_x e
    have l1 : α.2.2.2.2.1.length = D'.length + 1 := by rw [e, List.length_append, List.length_singleton]
    have cd := cs d (by rw [e]; exact List.mem_append_right _ (List.mem_singleton_self d))
    obtain ⟨B, S, -⟩ := id A.2.2.2.2.2.1
    rw [eU, u_X11_undoRun_b38]
    unfold g_X11_undoRun_b38
    rw [if_neg (show ¬ (pxJ ((m + 1 : Nat) : Int) ≤ 0) from pyLe0 (z := ((m + 1 : Nat) : Int)) (by omega) (by omega) (by omega)), C.r (11, 282) (by decide), px_bs, px_rc S.1, px_bs, s_X3_latestCall A.2.2.2.2.2.1 hx hl0, px_b2, e, List.getLast?_concat]
    show pxW (if pxJ d.1 = pxJ call then _ else _) fun v h' => pwY _ _ h (0, (if d.1 = call then pzUr call m (u + 1) (pzUn α) else (u, α)).1, (if d.1 = call then pzUr call m (u + 1) (pzUn α) else (u, α)).2) v h'
    by_cases k : d.1 = call
    · rw [if_pos (show pxJ d.1 = pxJ call by rw [k]), if_pos k, C.r (11, 282) (by decide), px_bs, C.r (6, 255) (by decide), px_bs, px_rc S.1, px_bs]
      refine pxW_b2 (c_un A e) fun _ h2 q => ?_
      obtain ⟨F2, A2⟩ := q
      have eD : (pzUn α).2.2.2.2.1 = D' := by
        unfold pzUn
        rw [e, List.getLast?_concat, List.dropLast_concat]
        rfl
      rw [show pxJ u + (1 : Int32) = pxJ (u + 1) from pxJ_add u 1, show (-1 : Int32) = pxJ (-1) by decide, pxJ_add, show ((m + 1 : Nat) : Int) + -1 = (m : Int) by omega]
      refine pxW.mono (ih N h2 (u + 1) (pzUn α) (by rw [eD]; omega) (by omega) (by omega) A2 (fun x hx => cs x (by rw [e]; rw [eD] at hx; exact List.mem_append_left _ hx))) fun v h' w => ?_
      exact ⟨pwF.tr F2 (fun k f z => by omega) w.1, w.2⟩
    · rw [if_neg (show ¬ (pxJ d.1 = pxJ call) from fun z => k ((pxJ_eq (a := d.1) (b := call) (by omega) (by omega) (by omega) (by omega)).mp z)), if_neg k]
      exact pxW_some.mpr (pwY_0 pwF.rfl A)
theorem c_undoRun (A : pwA h α) (cs : ∀ d ∈ α.2.2.2.2.1, -2147483648 ≤ d.1 ∧ d.1 ≤ 2147483647) : pxW (f_X11_undoRun h 0) fun v h' => pwY "java/lang/IllegalStateException" "" h (pz_undoRun α) v h' := by
  have C := A.1
  obtain ⟨B, S, -, -, -, m3, d40, -⟩ := id A.2.2.2.2.2.1
  unfold f_X11_undoRun pz_undoRun
  rw [C.r (11, 282) (by decide), px_bs, px_gI S.1, px_bs, m3]
  by_cases c : α.2.2.2.2.1 = []
  · rw [if_pos (show pxJ (α.2.2.2.2.1.length : Int) = 0 by rw [c]; rfl), c]
    exact pxW_some.mpr (pwY_1 A)
  · obtain ⟨D', d, e⟩ := pyD_end c
    obtain ⟨hx, hl0⟩ := pwD_x e
    have cd := cs d (by rw [e]; exact List.mem_append_right _ (List.mem_singleton_self d))
    rw [if_neg (show ¬ (pxJ (α.2.2.2.2.1.length : Int) = 0) from fun z => by
      have := (pxJ_eq (a := (α.2.2.2.2.1.length : Int)) (b := 0) (by omega) (by omega) (by omega) (by omega)).mp z
      omega), px_bs, px_rc S.1, px_bs, s_X3_latestCall A.2.2.2.2.2.1 hx hl0, px_b2, C.r (11, 282) (by decide), px_bs, px_gI S.1, px_bs, m3, show α.2.2.2.2.1.getLast? = some d by rw [e, List.getLast?_concat], show (0 : Int32) = pxJ 0 from rfl]
    exact c_undoRun_b38 cd.1 cd.2 _ jw_FU h 0 α rfl d40 (by unfold jw_FU; omega) A cs
end
