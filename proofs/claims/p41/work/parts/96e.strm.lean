/-! changes of rows: over the whole, and line by line -/
def qzC (s : List Int) (a : Int) (r : List Int) : List Int := (pxChg s a r).1
theorem qz_rwAt {pre suf : List (List Int)} {r : List Int} : pxRw (pre ++ r :: suf) ((pre.length : Int) + 1) = r := by
  show pxG [] (pre ++ r :: suf) ((pre.length : Int) + 1) = r
  rw [pxG_appR (by omega), show (pre.length : Int) + 1 - pre.length = 1 by omega]
  rfl
theorem qz_setAt {α : Type} {pre suf : List α} {r z : α} : pxSet (pre ++ r :: suf) ((pre.length : Int) + 1) z = pre ++ z :: suf := by
  unfold pxSet
  rw [show ((pre.length : Int) + 1 - 1).toNat = pre.length by omega, List.set_append_right _ _ (Nat.le_refl _), Nat.sub_self]
  rfl
theorem qz_chgs {s : List Int} {a : Int} : ∀ (suf pre : List (List Int)) (rep : Bool), ((pxChgs s a suf.length ((pre.length : Int) + 1) (pre ++ suf) rep).1 = true ↔ ∀ r ∈ suf, (qzC s a r).length ≤ 30) ∧ ((pxChgs s a suf.length ((pre.length : Int) + 1) (pre ++ suf) rep).1 = true → (pxChgs s a suf.length ((pre.length : Int) + 1) (pre ++ suf) rep).2.1 = pre ++ suf.map (qzC s a))
  | [], pre, rep => ⟨⟨fun _ r hr => (by cases hr), fun _ => rfl⟩, fun _ => rfl⟩
  | r :: suf, pre, rep => by
    have eU : pxChgs s a (r :: suf).length ((pre.length : Int) + 1) (pre ++ r :: suf) rep = if 30 < (pxChg s a (pxRw (pre ++ r :: suf) ((pre.length : Int) + 1))).1.length then (false, pre ++ r :: suf, rep) else pxChgs s a suf.length ((pre.length : Int) + 1 + 1) (pxSet (pre ++ r :: suf) ((pre.length : Int) + 1) (pxChg s a (pxRw (pre ++ r :: suf) ((pre.length : Int) + 1))).1) (rep || (pxChg s a (pxRw (pre ++ r :: suf) ((pre.length : Int) + 1))).2) := rfl
    rw [eU, qz_rwAt, qz_setAt]
    by_cases c : 30 < (pxChg s a r).1.length
    · rw [if_pos c]
      refine ⟨⟨fun z => (by cases z), fun z => ?_⟩, fun z => (by cases z)⟩
      have := z r List.mem_cons_self
      unfold qzC at this
      omega
    · rw [if_neg c]
      obtain ⟨i1, i2⟩ := qz_chgs (s := s) (a := a) suf (pre ++ [(pxChg s a r).1]) (rep || (pxChg s a r).2)
      have el : ((pre ++ [(pxChg s a r).1]).length : Int) = (pre.length : Int) + 1 := by rw [List.length_append, List.length_singleton]; omega
      have ea : pre ++ [(pxChg s a r).1] ++ suf = pre ++ (pxChg s a r).1 :: suf := by rw [List.append_assoc]; rfl
      rw [el, ea] at i1 i2
      refine ⟨i1.trans ⟨fun z x hx => ?_, fun z x hx => z x (List.mem_cons_of_mem _ hx)⟩, fun z => ?_⟩
      · rcases List.mem_cons.mp hx with h | h
        · subst h
          unfold qzC
          omega
        · exact z x h
      · rw [i2 z, List.append_assoc]
        rfl
theorem qz_chgA {s : List Int} {a : Int} {rs : List (List Int)} {rep : Bool} {l : Int} (hl : l = (rs.length : Int)) : ((pxChgs s a (l + 1 - 1).toNat 1 rs rep).1 = true ↔ ∀ r ∈ rs, (qzC s a r).length ≤ 30) ∧ ((pxChgs s a (l + 1 - 1).toNat 1 rs rep).1 = true → (pxChgs s a (l + 1 - 1).toNat 1 rs rep).2.1 = rs.map (qzC s a)) := by
  have k := qz_chgs (s := s) (a := a) rs [] rep
  rw [show (l + 1 - 1).toNat = rs.length by omega]
  exact k
theorem qz_chg1 {s : List Int} {a x : Int} {rs : List (List Int)} {rep : Bool} : pxChgs s a (x + 1 - x).toNat x rs rep = if 30 < (qzC s a (pxRw rs x)).length then (false, rs, rep) else (true, pxSet rs x (qzC s a (pxRw rs x)), rep || (pxChg s a (pxRw rs x)).2) := by
  rw [show (x + 1 - x).toNat = 0 + 1 by omega]
  rfl
theorem qz_zip : ∀ (ls : pxLs) (rs : List (List Int)), rs.length = ls.length → pxRs (pxReR ls rs) = rs ∧ pxIds (pxReR ls rs) = pxIds ls
  | [], [], _ => ⟨rfl, rfl⟩
  | [], r :: rs, h => by cases h
  | a :: ls, [], h => by cases h
  | a :: ls, r :: rs, h => by
    obtain ⟨h1, h2⟩ := qz_zip ls rs (by rw [List.length_cons, List.length_cons] at h; omega)
    refine ⟨?_, ?_⟩
    · show r :: pxRs (pxReR ls rs) = r :: rs
      rw [h1]
    · show a.1 :: pxIds (pxReR ls rs) = a.1 :: pxIds ls
      rw [h2]
theorem qz_zlen {ls : pxLs} {rs : List (List Int)} (h : rs.length = ls.length) : (pxReR ls rs).length = ls.length := by
  have := congrArg List.length (qz_zip ls rs h).1
  rw [pxRs_len] at this
  omega
def qzIsC (c : Int) : Prop := c = 62 ∨ c = 115 ∨ c = 122 ∨ c = 60
/-- an order for all lines that changes rows, as it is come to -/
theorem qz_stC {s : List Int} {L : List (Int × List Int)} {j : Nat} {t : Int × List Int} {came : Int} {T : pxTx} {S : pxSto} {rep : Bool} (hw : (pxWh s t.1).2.2.1 = 1) (hc : qzIsC (pxAc s t.1)) (n0 : 0 < (T.1.length : Int)) :
    (pxStep s L j t came T S rep).2.2.2.2.1 = S ∧ ((pxStep s L j t came T S rep).1 = 0 → pxRs (pxStep s L j t came T S rep).2.2.2.1.1 = (pxRs T.1).map (qzC s (pxWh s t.1).2.1) ∧ (pxStep s L j t came T S rep).2.2.2.1.1.length = T.1.length) ∧ ((pxStep s L j t came T S rep).1 = 0 ∨ (pxStep s L j t came T S rep).1 = 4 ∨ (pxStep s L j t came T S rep).1 = 7) := by
  have st : ¬ pxSteer (pxAc s t.1) = true := fun z => by
    unfold pxSteer at z
    have := of_decide_eq_true z
    unfold qzIsC at hc
    omega
  have ng : ¬ (pxAc s t.1 = 103 ∨ pxAc s t.1 = 71 ∨ pxAc s t.1 = 123) := by unfold qzIsC at hc; omega
  have hc' : pxP s (pxWh s t.1).2.1 = 62 ∨ pxP s (pxWh s t.1).2.1 = 115 ∨ pxP s (pxWh s t.1).2.1 = 122 ∨ pxP s (pxWh s t.1).2.1 = 60 := hc
  unfold pxStep
  by_cases a : 60 ≤ came
  · rw [if_pos a]
    exact ⟨rfl, fun z => absurd (show (7 : Int) = 0 from z) (by decide), Or.inr (Or.inr rfl)⟩
  rw [if_neg a, if_neg st, qz_rP hw n0, if_neg (fun z => z rfl), if_neg ng]
  show (pxDo s (pxWh s t.1).2.1 1 (T.1.length : Int) T S rep).1.2.2 = S ∧ ((pxDo s (pxWh s t.1).2.1 1 (T.1.length : Int) T S rep).1.1 = 0 → pxRs (pxDo s (pxWh s t.1).2.1 1 (T.1.length : Int) T S rep).1.2.1.1 = (pxRs T.1).map (qzC s (pxWh s t.1).2.1) ∧ (pxDo s (pxWh s t.1).2.1 1 (T.1.length : Int) T S rep).1.2.1.1.length = T.1.length) ∧ ((pxDo s (pxWh s t.1).2.1 1 (T.1.length : Int) T S rep).1.1 = 0 ∨ (pxDo s (pxWh s t.1).2.1 1 (T.1.length : Int) T S rep).1.1 = 4 ∨ (pxDo s (pxWh s t.1).2.1 1 (T.1.length : Int) T S rep).1.1 = 7)
  rw [qz_doC hc']
  refine ⟨rfl, fun z => ?_, ?_⟩
  rotate_left
  · show (if (pxChgs s (pxWh s t.1).2.1 ((T.1.length : Int) + 1 - 1).toNat 1 (pxRs T.1) rep).1 = true then (0 : Int) else 4) = 0 ∨ (if (pxChgs s (pxWh s t.1).2.1 ((T.1.length : Int) + 1 - 1).toNat 1 (pxRs T.1) rep).1 = true then (0 : Int) else 4) = 4 ∨ _
    by_cases c : (pxChgs s (pxWh s t.1).2.1 ((T.1.length : Int) + 1 - 1).toNat 1 (pxRs T.1) rep).1 = true
    · rw [if_pos c]; exact Or.inl rfl
    · rw [if_neg c]; exact Or.inr (Or.inl rfl)
  have z : (if (pxChgs s (pxWh s t.1).2.1 ((T.1.length : Int) + 1 - 1).toNat 1 (pxRs T.1) rep).1 = true then (0 : Int) else 4) = 0 := z
  have k := qz_chgA (s := s) (a := (pxWh s t.1).2.1) (rs := pxRs T.1) (rep := rep) (l := (T.1.length : Int)) (by rw [pxRs_len])
  have ok : (pxChgs s (pxWh s t.1).2.1 ((T.1.length : Int) + 1 - 1).toNat 1 (pxRs T.1) rep).1 = true := by
    by_cases c : (pxChgs s (pxWh s t.1).2.1 ((T.1.length : Int) + 1 - 1).toNat 1 (pxRs T.1) rep).1 = true
    · exact c
    · rw [if_neg c] at z
      cases z
  have e2 := k.2 ok
  show pxRs (pxReR T.1 (pxChgs s (pxWh s t.1).2.1 ((T.1.length : Int) + 1 - 1).toNat 1 (pxRs T.1) rep).2.1) = _ ∧ (pxReR T.1 (pxChgs s (pxWh s t.1).2.1 ((T.1.length : Int) + 1 - 1).toNat 1 (pxRs T.1) rep).2.1).length = _
  rw [e2]
  have el : ((pxRs T.1).map (qzC s (pxWh s t.1).2.1)).length = T.1.length := by rw [List.length_map, pxRs_len]
  exact ⟨(qz_zip _ _ el).1, qz_zlen el⟩
/-- a script of such orders over the whole -/
def qzF (s : List Int) (t : Int × List Int) : List Int → List Int := qzC s (pxWh s t.1).2.1
theorem qz_play {s : List Int} {L : List (Int × List Int)} {call : Int} (hL : ∀ t ∈ L, (pxWh s t.1).2.2.1 = 1 ∧ qzIsC (pxAc s t.1)) : ∀ (rem pre : List (Int × List Int)) (m : Nat) (done came : Int) (T : pxTx) (S : pxSto) (rep : Bool) (D : List (Int × pxSn)), L = pre ++ rem → rem.length ≤ m → 0 < (T.1.length : Int) →
    (pxRunL s L call m pre.length done came T S rep D).2.2.2.1 = S ∧ ((pxRunL s L call m pre.length done came T S rep D).2.1 = 0 → pxRs (pxRunL s L call m pre.length done came T S rep D).2.2.1.1 = rem.foldl (fun rs t => rs.map (qzF s t)) (pxRs T.1)) ∧ ((pxRunL s L call m pre.length done came T S rep D).2.1 = 0 ∨ (pxRunL s L call m pre.length done came T S rep D).2.1 = 4 ∨ (pxRunL s L call m pre.length done came T S rep D).2.1 = 7)
  | [], pre, m, done, came, T, S, rep, D, eL, hm, n0 => by
    have ej : L[pre.length]? = none := by rw [eL, List.append_nil]; exact List.getElem?_eq_none (Nat.le_refl _)
    cases m with
    | zero => exact ⟨rfl, fun _ => rfl, Or.inl rfl⟩
    | succ m =>
      have eU : pxRunL s L call (m + 1) pre.length done came T S rep D = (L[pre.length]?).elim (done, 0, T, S, D) (fun t => if (pxStep s L pre.length t came T S rep).1 ≠ 0 then (done, (pxStep s L pre.length t came T S rep).1, T, S, D) else pxRunL s L call m (pxStep s L pre.length t came T S rep).2.1 (done + 1) (pxStep s L pre.length t came T S rep).2.2.1 (pxStep s L pre.length t came T S rep).2.2.2.1 (pxStep s L pre.length t came T S rep).2.2.2.2.1 (pxStep s L pre.length t came T S rep).2.2.2.2.2 (pxDeed (pxAc s t.1) call T D)) := rfl
      rw [eU, ej]
      exact ⟨rfl, fun _ => rfl, Or.inl rfl⟩
  | t :: rem, pre, m, done, came, T, S, rep, D, eL, hm, n0 => by
    obtain ⟨m, rfl⟩ : ∃ m', m = m' + 1 := ⟨m - 1, by rw [List.length_cons] at hm; omega⟩
    have ej : L[pre.length]? = some t := by
      rw [eL, List.getElem?_append_right (Nat.le_refl _), Nat.sub_self]
      rfl
    have tm : t ∈ L := List.mem_of_getElem? ej
    obtain ⟨hw, hc⟩ := hL t tm
    have hd : ¬ (pxAc s t.1 = 58 ∨ pxAc s t.1 = 98 ∨ pxAc s t.1 = 84 ∨ pxAc s t.1 = 113) := by unfold qzIsC at hc; omega
    obtain ⟨k1, k2, k5⟩ := qz_stC (L := L) (j := pre.length) (came := came) (T := T) (S := S) (rep := rep) hw hc n0
    have eU : pxRunL s L call (m + 1) pre.length done came T S rep D = (L[pre.length]?).elim (done, 0, T, S, D) (fun t => if (pxStep s L pre.length t came T S rep).1 ≠ 0 then (done, (pxStep s L pre.length t came T S rep).1, T, S, D) else pxRunL s L call m (pxStep s L pre.length t came T S rep).2.1 (done + 1) (pxStep s L pre.length t came T S rep).2.2.1 (pxStep s L pre.length t came T S rep).2.2.2.1 (pxStep s L pre.length t came T S rep).2.2.2.2.1 (pxStep s L pre.length t came T S rep).2.2.2.2.2 (pxDeed (pxAc s t.1) call T D)) := rfl
    rw [eU, ej, Option.elim_some]
    by_cases c : (pxStep s L pre.length t came T S rep).1 ≠ 0
    · rw [if_pos c]
      exact ⟨rfl, fun z => absurd z c, k5⟩
    · have c0 : (pxStep s L pre.length t came T S rep).1 = 0 := Decidable.not_not.mp c
      obtain ⟨k3, k4⟩ := k2 c0
      rw [if_neg c, qz_stepj hd c0, k1]
      have ih := qz_play (call := call) hL rem (pre ++ [t]) m (done + 1) (pxStep s L pre.length t came T S rep).2.2.1 (pxStep s L pre.length t came T S rep).2.2.2.1 S (pxStep s L pre.length t came T S rep).2.2.2.2.2 (pxDeed (pxAc s t.1) call T D) (by rw [eL, List.append_assoc]; rfl) (by rw [List.length_cons] at hm; omega) (by rw [k4]; exact n0)
      rw [List.length_append, List.length_singleton, k3] at ih
      exact ih
theorem qz_fuse {s : List Int} : ∀ (L : List (Int × List Int)) (rs : List (List Int)), L.foldl (fun rs t => rs.map (qzF s t)) rs = rs.map (fun r => L.foldl (fun r t => qzF s t r) r)
  | [], rs => by
    show rs = rs.map (fun r => r)
    rw [List.map_id']
  | t :: L, rs => by
    show L.foldl (fun rs t => rs.map (qzF s t)) (rs.map (qzF s t)) = _
    rw [qz_fuse L, List.map_map]
    rfl
