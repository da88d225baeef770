/-! what stays true of a text under acts -/
def pxInv (T : pxTx) : Prop := T.1.length ≤ 40 ∧ pxOk (pxRs T.1) ∧ 0 ≤ T.2.2.1 ∧ T.2.2.1 ≤ T.1.length ∧ (1 ≤ T.1.length → 1 ≤ T.2.2.1) ∧ 0 ≤ T.2.2.2 ∧ pxII (pxIds T.1) T.2.1 T.2.2.2
def pxInvS (S : pxSto) : Prop := (S.1.length ≤ 40 ∧ pxOk S.1) ∧ (S.2.1.length ≤ 100 ∧ pxOk S.2.1) ∧ ∀ k : Int, 0 ≤ k → k < 4 → (S.2.2 k).length ≤ 40 ∧ pxOk (S.2.2 k)
theorem pxInv.now {T : pxTx} (H : pxInv T) : pxNowOk T := ⟨H.2.2.1, H.2.2.2.1⟩
theorem pxOk_sub {rs : List (List Int)} {x y : Int} (ok : pxOk rs) : pxOk (pxSub rs x y) := pxOk_take (pxOk_drop ok)
theorem pxInv_bring {goes : Bool} {x f l : Int} {rows : List (List Int)} {T : pxTx} (H : pxInv T) (okr : pxOk rows) (g : goes = true → 1 ≤ f ∧ f ≤ l ∧ l ≤ T.1.length) (x1 : 1 ≤ x) (x2 : x ≤ (T.1.length : Int) - (if goes = true then l - f + 1 else 0) + 1) (ne : 1 ≤ (rows.length : Int) ∨ 2 ≤ x ∨ (T.1.length : Int) - (if goes = true then l - f + 1 else 0) = 0) (r0 : (pxSpBring goes x f l rows T).1 = 0) : pxInv (pxSpBring goes x f l rows T).2 ∧ (pxSpBring goes x f l rows T).2.2.2.2 ≤ T.2.2.2 + 40 := by
  obtain ⟨l40, ok, n0, n1, n2, nx0, ii⟩ := H
  unfold pxSpBring at r0 ⊢
  by_cases big : 40 < (T.1.length : Int) - (if goes = true then l - f + 1 else 0) + rows.length
  · rw [if_pos big] at r0; exact absurd r0 (by show ¬ (4 : Int) = 0; omega)
  rw [if_neg big]
  have key : ∀ (l1 : pxLs) (mk1 : Int → Int), (l1.length : Int) = (T.1.length : Int) - (if goes = true then l - f + 1 else 0) → pxOk (pxRs l1) → pxII (pxIds l1) mk1 T.2.2.2 → pxInv (pxIns l1 x (pxNewR T.2.2.2 rows), mk1, x + rows.length - 1, T.2.2.2 + rows.length) ∧ T.2.2.2 + (rows.length : Int) ≤ T.2.2.2 + 40 := by
    intro l1 mk1 e1 ok1 i1
    have il : (pxIns l1 x (pxNewR T.2.2.2 rows)).length = l1.length + rows.length := by rw [pxIns_len, pxNewR_len]
    refine ⟨⟨by dsimp only; omega, by dsimp only; rw [pxRs_ins, pxNewR_rs]; exact pxOk_ins ok1 okr, by dsimp only; omega, by dsimp only; omega, by dsimp only; omega, by dsimp only; omega, ?_⟩, by omega⟩
    refine pxII.perm (i1.new nx0 rows.length) ?_
    have := pxIds_ins (l := l1) (m := pxNewR T.2.2.2 rows) (x := x)
    rw [pxNewR_ids] at this
    exact this
  have gl : goes = true → ((pxDel T.1 f (l - f + 1)).length : Int) = T.1.length - (l - f + 1) := fun z => pxDel_len (by have := g z; omega) (by have := g z; omega) (by have := g z; omega)
  cases goes with
  | true =>
    obtain ⟨g1, g2, g3⟩ := g rfl
    exact key _ _ (gl rfl) (by show pxOk (pxRs (pxDel T.1 f (l - f + 1))); rw [pxRs_del]; exact pxOk_del ok) (ii.del (pxIds_del g1 (by omega) (by omega)))
  | false => exact key _ _ (by show (T.1.length : Int) = (T.1.length : Int) - 0; omega) ok ii
theorem pxInv_del {f l : Int} {T : pxTx} (H : pxInv T) (f1 : 1 ≤ f) (fl : f ≤ l) (l1 : l ≤ T.1.length) : pxInv (pxSpDel f l T) ∧ (pxSpDel f l T).2.2.2 ≤ T.2.2.2 + 40 := by
  obtain ⟨l40, ok, n0, n1, n2, nx0, ii⟩ := H
  have dl := pxDel_len (l := T.1) (x := f) (n := l - f + 1) f1 (by omega) (by omega)
  unfold pxSpDel
  exact ⟨⟨by dsimp only; omega, by dsimp only; rw [pxRs_del]; exact pxOk_del ok, by dsimp only; omega, by dsimp only; omega, by dsimp only; omega, nx0, ii.del (pxIds_del f1 (by omega) (by omega))⟩, by dsimp only; omega⟩
theorem pxCat_or {rs : List (List Int)} (ok : pxOk rs) : ∀ (m : Nat) (x : Int), ∀ c ∈ pxCat rs m x, pxCh c
  | 0, _, c, hc => by cases hc
  | m + 1, x, c, hc => by
    rcases List.mem_append.mp hc with z | z
    · exact (pxRw_or ok x).2 c z
    · exact pxCat_or ok m (x + 1) c z
theorem pxInv_join {f l : Int} {T : pxTx} (H : pxInv T) (f1 : 1 ≤ f) (fl : f ≤ l) (l1 : l ≤ T.1.length) (r0 : (pxSpJoin f l T).1 = 0) : pxInv (pxSpJoin f l T).2 ∧ (pxSpJoin f l T).2.2.2.2 ≤ T.2.2.2 + 40 := by
  obtain ⟨l40, ok, n0, n1, n2, nx0, ii⟩ := H
  unfold pxSpJoin at r0 ⊢
  have je : f < pxJoE f l ∧ l ≤ pxJoE f l := by
    unfold pxJoE
    by_cases c : f = l
    · rw [if_pos c]; omega
    · rw [if_neg c]; omega
  by_cases c : (T.1.length : Int) < pxJoE f l
  · rw [if_pos c] at r0; exact absurd r0 (by show ¬ (1 : Int) = 0; omega)
  rw [if_neg c] at r0 ⊢
  by_cases d : 30 < (pxJoW f l T.1).length
  · rw [if_pos d] at r0; exact absurd r0 (by show ¬ (4 : Int) = 0; omega)
  rw [if_neg d]
  have okw : pxOr (pxJoW f l T.1) := ⟨by omega, pxCat_or ok _ _⟩
  have sl : (pxSet T.1 f (pxId T.1 f, pxJoW f l T.1)).length = T.1.length := pxSet_len
  have dl := pxDel_len (l := pxSet T.1 f (pxId T.1 f, pxJoW f l T.1)) (x := f + 1) (n := pxJoE f l - f) (by omega) (by omega) (by omega)
  refine ⟨⟨by dsimp only; omega, by dsimp only; rw [pxRs_del, pxRs_set]; exact pxOk_del (pxOk_set ok okw), by dsimp only; omega, by dsimp only; omega, by dsimp only; omega, nx0, ?_⟩, by dsimp only; omega⟩
  have p := pxIds_del (l := pxSet T.1 f (pxId T.1 f, pxJoW f l T.1)) (x := f + 1) (y := pxJoE f l) (n := pxJoE f l - f) (by omega) (by omega) (by omega)
  rw [pxIds_set f1 (by omega)] at p
  have es : pxSub (pxSet T.1 f (pxId T.1 f, pxJoW f l T.1)) (f + 1) (pxJoE f l) = pxSub T.1 (f + 1) (pxJoE f l) := by
    unfold pxSub
    rw [pxDrop_set f1 (by omega)]
  rw [es] at p
  exact ii.del p
theorem pxPart_inv {n : Int} (n0 : 0 ≤ n) : ∀ (m : Nat) (x : Int) (ls : pxLs) (nx : Int) (v : pxLs × Int × Int) (mk : Int → Int), pxPart n m x ls nx = some v → 1 ≤ x → x + m ≤ ls.length + 1 → ls.length ≤ 40 → pxOk (pxRs ls) → 0 ≤ nx → pxII (pxIds ls) mk nx → v.1.length ≤ 40 ∧ pxOk (pxRs v.1) ∧ nx ≤ v.2.1 ∧ v.2.1 ≤ nx + m ∧ pxII (pxIds v.1) mk v.2.1 ∧ x + m ≤ v.2.2 ∧ v.2.2 ≤ v.1.length + 1 := by
  intro m
  induction m with
  | zero =>
    intro x ls nx v mk h x1 xm l40 ok nx0 ii
    have e : (ls, nx, x) = v := Option.some.inj h
    subst e
    exact ⟨l40, ok, Int.le_refl _, by dsimp only; omega, ii, by dsimp only; omega, by dsimp only; omega⟩
  | succ m ih =>
    intro x ls nx v mk h x1 xm l40 ok nx0 ii
    unfold pxPart at h
    by_cases c : pxLn (pxRs ls) x ≤ n
    · rw [if_pos c] at h
      obtain ⟨a1, a2, a3, a4, a5, a6, a7⟩ := ih (x + 1) ls nx v mk h (by omega) (by omega) l40 ok nx0 ii
      exact ⟨a1, a2, a3, by omega, a5, by omega, a7⟩
    · rw [if_neg c] at h
      by_cases d : 40 ≤ ls.length
      · rw [if_pos d] at h; cases h
      · rw [if_neg d] at h
        have or := pxRw_or ok x
        have il : (pxIns (pxSet ls x (pxId ls x, (pxRw (pxRs ls) x).take n.toNat)) (x + 1) [(nx, (pxRw (pxRs ls) x).drop n.toNat)]).length = ls.length + 1 := by rw [pxIns_len, pxSet_len]; rfl
        have ii2 : pxII (pxIds (pxIns (pxSet ls x (pxId ls x, (pxRw (pxRs ls) x).take n.toNat)) (x + 1) [(nx, (pxRw (pxRs ls) x).drop n.toNat)])) mk (nx + 1) := by
          refine pxII.perm (ii.new nx0 1) ?_
          have := pxIds_ins (l := pxSet ls x (pxId ls x, (pxRw (pxRs ls) x).take n.toNat)) (m := [(nx, (pxRw (pxRs ls) x).drop n.toNat)]) (x := x + 1)
          rw [pxIds_set x1 (by omega)] at this
          exact this
        obtain ⟨a1, a2, a3, a4, a5, a6, a7⟩ := ih (x + 2) _ (nx + 1) v mk h (by omega) (by rw [il]; omega) (by omega) (by
          rw [pxRs_ins, pxRs_set]
          exact pxOk_ins (pxOk_set ok (pxOr_take or)) (pxOk_one (pxOr_drop or))) (by omega) ii2
        exact ⟨a1, a2, by omega, by omega, a5, by omega, a7⟩
theorem pxInv_part {n f l : Int} {T : pxTx} (H : pxInv T) (n0 : 0 ≤ n) (f1 : 1 ≤ f) (fl : f ≤ l) (l1 : l ≤ T.1.length) (r0 : (pxSpPart n f l T).1 = 0) : pxInv (pxSpPart n f l T).2 ∧ (pxSpPart n f l T).2.2.2.2 ≤ T.2.2.2 + 40 := by
  obtain ⟨l40, ok, q0, q1, q2, nx0, ii⟩ := H
  unfold pxSpPart at r0 ⊢
  cases hp : pxPart n (l - f + 1).toNat f T.1 T.2.2.2 with
  | none => rw [hp] at r0; exact absurd r0 (by show ¬ (4 : Int) = 0; omega)
  | some v =>
    obtain ⟨a1, a2, a3, a4, a5, a6, a7⟩ := pxPart_inv n0 _ _ _ _ v T.2.1 hp f1 (by omega) l40 ok nx0 ii
    show pxInv (v.1, T.2.1, v.2.2 - 1, v.2.1) ∧ v.2.1 ≤ T.2.2.2 + 40
    exact ⟨⟨a1, a2, by dsimp only; omega, by dsimp only; omega, by dsimp only; omega, by dsimp only; omega, a5⟩, by omega⟩
theorem pxUniq_inv {nx : Int} : ∀ (m : Nat) (x : Int) (ls : pxLs) (mk : Int → Int), 2 ≤ x → x + m ≤ ls.length + 1 → ls.length ≤ 40 → pxOk (pxRs ls) → pxII (pxIds ls) mk nx → (pxUniq m x ls mk).1.length ≤ 40 ∧ pxOk (pxRs (pxUniq m x ls mk).1) ∧ pxII (pxIds (pxUniq m x ls mk).1) (pxUniq m x ls mk).2.1 nx ∧ x ≤ (pxUniq m x ls mk).2.2 ∧ (pxUniq m x ls mk).2.2 ≤ (pxUniq m x ls mk).1.length + 1 := by
  intro m
  induction m with
  | zero => intro x ls mk x1 xm l40 ok ii; exact ⟨l40, ok, ii, Int.le_refl _, by show x ≤ (ls.length : Int) + 1; omega⟩
  | succ m ih =>
    intro x ls mk x1 xm l40 ok ii
    unfold pxUniq
    by_cases c : pxRw (pxRs ls) x = pxRw (pxRs ls) (x - 1)
    · rw [if_pos c]
      have dl := pxDel_len (l := ls) (x := x) (n := 1) (by omega) (by omega) (by omega)
      have p := pxIds_del (l := ls) (x := x) (y := x) (n := 1) (by omega) (by omega) (by omega)
      have es : pxSub ls x x = [pxAt ls x] := by
        unfold pxSub
        rw [pxAt_drop (by omega) (by omega), show (x - x + 1).toNat = 1 by omega]
        rfl
      rw [es] at p
      exact ih x (pxDel ls x 1) (pxDm mk (pxId ls x)) x1 (by omega) (by omega) (by rw [pxRs_del]; exact pxOk_del ok) (ii.del p)
    · rw [if_neg c]
      obtain ⟨a1, a2, a3, a4, a5⟩ := ih (x + 1) ls mk (by omega) (by omega) l40 ok ii
      exact ⟨a1, a2, a3, by omega, a5⟩
theorem pxInv_uniq {f l : Int} {T : pxTx} (H : pxInv T) (f1 : 1 ≤ f) (fl : f ≤ l) (l1 : l ≤ T.1.length) : pxInv (pxSpUniq f l T) ∧ (pxSpUniq f l T).2.2.2 ≤ T.2.2.2 + 40 := by
  obtain ⟨l40, ok, q0, q1, q2, nx0, ii⟩ := H
  obtain ⟨a1, a2, a3, a4, a5⟩ := pxUniq_inv (nx := T.2.2.2) (l - f).toNat (f + 1) T.1 T.2.1 (by omega) (by omega) l40 ok ii
  unfold pxSpUniq
  exact ⟨⟨a1, a2, by dsimp only; omega, by dsimp only; omega, by dsimp only; omega, nx0, a3⟩, by dsimp only; omega⟩
theorem pxInv_move {f l t : Int} {T : pxTx} (H : pxInv T) (f1 : 1 ≤ f) (fl : f ≤ l) (l1 : l ≤ T.1.length) (t1 : t ≤ T.1.length) (r0 : (pxSpMove f l t T).1 = 0) : pxInv (pxSpMove f l t T).2 ∧ (pxSpMove f l t T).2.2.2.2 ≤ T.2.2.2 + 40 := by
  obtain ⟨l40, ok, q0, q1, q2, nx0, ii⟩ := H
  unfold pxSpMove at r0 ⊢
  by_cases c : t < 0
  · rw [if_pos c] at r0; dsimp only at r0; omega
  rw [if_neg c] at r0 ⊢
  by_cases d : f ≤ t ∧ t < l
  · rw [if_pos d] at r0; exact absurd r0 (by show ¬ (1 : Int) = 0; omega)
  rw [if_neg d]
  have dl := pxDel_len (l := T.1) (x := f) (n := l - f + 1) f1 (by omega) (by omega)
  have sl := pxSub_len (l := T.1) (x := f) (y := l) f1 (by omega) l1
  have il : ((pxIns (pxDel T.1 f (l - f + 1)) (pxMoA f l t) (pxSub T.1 f l)).length : Int) = T.1.length := by rw [pxIns_len]; omega
  have ma : 1 ≤ pxMoA f l t ∧ pxMoA f l t + (l - f + 1) - 1 ≤ T.1.length := by
    unfold pxMoA
    by_cases e : t < f
    · rw [if_pos e]; omega
    · rw [if_neg e]; omega
  refine ⟨⟨by dsimp only; omega, ?_, by dsimp only; omega, by dsimp only; omega, by dsimp only; omega, nx0, ?_⟩, by dsimp only; omega⟩
  · dsimp only
    rw [pxRs_ins, pxRs_del]
    refine pxOk_ins (pxOk_del ok) ?_
    have : pxRs (pxSub T.1 f l) = pxSub (pxRs T.1) f l := by unfold pxRs pxSub; rw [List.map_take, List.map_drop]
    rw [this]
    exact pxOk_sub ok
  · refine ii.perm ?_
    exact pxIds_ins.trans (pxIds_del f1 (by omega) (by omega)).symm
theorem pxInv_copy {f l t : Int} {T : pxTx} (H : pxInv T) (f1 : 1 ≤ f) (fl : f ≤ l) (l1 : l ≤ T.1.length) (t1 : t ≤ T.1.length) (r0 : (pxSpCopy f l t T).1 = 0) : pxInv (pxSpCopy f l t T).2 ∧ (pxSpCopy f l t T).2.2.2.2 ≤ T.2.2.2 + 40 := by
  obtain ⟨l40, ok, q0, q1, q2, nx0, ii⟩ := H
  unfold pxSpCopy at r0 ⊢
  by_cases c : t < 0
  · rw [if_pos c] at r0; dsimp only at r0; omega
  rw [if_neg c] at r0 ⊢
  by_cases d : 40 < (T.1.length : Int) + (l - f + 1)
  · rw [if_pos d] at r0; exact absurd r0 (by show ¬ (4 : Int) = 0; omega)
  rw [if_neg d]
  have sl := pxSub_len (l := pxRs T.1) (x := f) (y := l) f1 (by omega) (by rw [pxRs_len]; exact l1)
  have il : ((pxIns T.1 (t + 1) (pxNewR T.2.2.2 (pxSub (pxRs T.1) f l))).length : Int) = T.1.length + (l - f + 1) := by rw [pxIns_len, pxNewR_len]; omega
  refine ⟨⟨by dsimp only; omega, by dsimp only; rw [pxRs_ins, pxNewR_rs]; exact pxOk_ins ok (pxOk_sub ok), by dsimp only; omega, by dsimp only; omega, by dsimp only; omega, by dsimp only; omega, ?_⟩, by dsimp only; omega⟩
  have i2 := ii.new nx0 (pxSub (pxRs T.1) f l).length
  rw [sl] at i2
  refine i2.perm ?_
  have := pxIds_ins (l := T.1) (m := pxNewR T.2.2.2 (pxSub (pxRs T.1) f l)) (x := t + 1)
  rw [pxNewR_ids] at this
  exact this
theorem pxInv_sort {place : Int} {fall : Bool} {f l : Int} {T : pxTx} (H : pxInv T) (f1 : 1 ≤ f) (fl : f ≤ l) (l1 : l ≤ T.1.length) : pxInv (pxSpSort place fall f l T) ∧ (pxSpSort place fall f l T).2.2.2 ≤ T.2.2.2 + 40 := by
  obtain ⟨l40, ok, q0, q1, q2, nx0, ii⟩ := H
  have p := pxSort_perm (place := place) (fall := fall) f1 (l - f).toNat (f + 1) T.1 (by omega) (by omega)
  have pl := p.length_eq
  have pi : (pxIds (pxSort place fall f (l - f).toNat (f + 1) T.1)).Perm (pxIds T.1) := by unfold pxIds; exact List.Perm.map (fun a : Int × List Int => a.1) p
  have pr : (pxRs (pxSort place fall f (l - f).toNat (f + 1) T.1)).Perm (pxRs T.1) := by unfold pxRs; exact List.Perm.map (fun a : Int × List Int => a.2) p
  unfold pxSpSort
  refine ⟨⟨by dsimp only; omega, fun r hr => ?_, by dsimp only; omega, by dsimp only; omega, by dsimp only; omega, nx0, ii.perm pi⟩, by dsimp only; omega⟩
  exact ok r (pr.mem_iff.mp hr)
