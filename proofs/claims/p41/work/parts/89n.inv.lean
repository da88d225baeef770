/-! what stays true of a text: ids and marks -/
def pxIds (ls : pxLs) : List Int := ls.map (·.1)
def pxII (ids : List Int) (mk : Int → Int) (nx : Int) : Prop := (∀ a ∈ ids, 0 ≤ a ∧ a < nx) ∧ ids.Nodup ∧ ∀ k : Int, 0 ≤ k → k < 5 → mk k = -1 ∨ mk k ∈ ids
theorem pxII.perm {ids ids' : List Int} {mk : Int → Int} {nx : Int} (H : pxII ids mk nx) (p : ids'.Perm ids) : pxII ids' mk nx :=
  ⟨fun a ha => H.1 a (p.mem_iff.mp ha), p.nodup_iff.mpr H.2.1, fun k k0 k1 => (H.2.2 k k0 k1).imp id (fun z => p.mem_iff.mpr z)⟩
theorem pxDms_e : ∀ (ls : pxLs) (mk : Int → Int) (k : Int), (∀ a ∈ pxIds ls, a ≠ -1) → pxDms mk ls k = if mk k ∈ pxIds ls then -1 else mk k
  | [], mm, k, _ => by
    show mm k = if mm k ∈ ([] : List Int) then -1 else mm k
    rw [if_neg (by simp)]
  | a :: r, mm, k, ne => by
    have ih := pxDms_e r (pxDm mm a.1) k (fun b hb => ne b (List.mem_cons_of_mem _ hb))
    have e : pxDms mm (a :: r) k = pxDms (pxDm mm a.1) r k := rfl
    rw [e, ih]
    unfold pxDm
    have ma : pxIds (a :: r) = a.1 :: pxIds r := rfl
    by_cases c : mm k = a.1
    · rw [if_pos c]
      have n1 : ¬ (-1 : Int) ∈ pxIds r := fun z => ne (-1) (List.mem_cons_of_mem _ z) rfl
      rw [if_neg n1, if_pos (by rw [ma, c]; exact List.mem_cons_self)]
    · rw [if_neg c]
      by_cases d : mm k ∈ pxIds r
      · rw [if_pos d, if_pos (by rw [ma]; exact List.mem_cons_of_mem _ d)]
      · rw [if_neg d, if_neg (by rw [ma]; intro z; rcases List.mem_cons.mp z with z | z; exact c z; exact d z)]
theorem pxII.del {ids rest : List Int} {gone : pxLs} {mk : Int → Int} {nx : Int} (H : pxII ids mk nx) (p : ids.Perm (rest ++ pxIds gone)) : pxII rest (pxDms mk gone) nx := by
  have H' := H.perm p.symm
  refine ⟨fun a ha => H'.1 a (List.mem_append_left _ ha), (List.nodup_append.mp H'.2.1).1, fun k k0 k1 => ?_⟩
  rw [pxDms_e gone mk k (fun a ha e => by have := (H'.1 a (List.mem_append_right _ ha)).1; omega)]
  by_cases c : mk k ∈ pxIds gone
  · rw [if_pos c]; exact Or.inl rfl
  · rw [if_neg c]
    rcases H'.2.2 k k0 k1 with z | z
    · exact Or.inl z
    · rcases List.mem_append.mp z with z | z
      · exact Or.inr z
      · exact absurd z c
theorem pxNewR_ids : ∀ (rows : List (List Int)) (n : Int), pxIds (pxNewR n rows) = pxUp n rows.length
  | [], _ => rfl
  | _ :: rs, n => by show n :: pxIds (pxNewR (n + 1) rs) = n :: pxUp (n + 1) rs.length; rw [pxNewR_ids rs]
theorem pxUp_mem : ∀ (m : Nat) (a x : Int), x ∈ pxUp a m ↔ a ≤ x ∧ x < a + m
  | 0, a, x => by
    show x ∈ ([] : List Int) ↔ _
    constructor
    · intro z; cases z
    · intro z; omega
  | m + 1, a, x => by
    show x ∈ a :: pxUp (a + 1) m ↔ _
    rw [List.mem_cons, pxUp_mem m]
    omega
theorem pxUp_nodup : ∀ (m : Nat) (a : Int), (pxUp a m).Nodup
  | 0, _ => List.nodup_nil
  | m + 1, a => List.nodup_cons.mpr ⟨fun z => by rw [pxUp_mem] at z; omega, pxUp_nodup m (a + 1)⟩
theorem pxII.new {ids : List Int} {mk : Int → Int} {nx : Int} (H : pxII ids mk nx) (n0 : 0 ≤ nx) (n : Nat) : pxII (ids ++ pxUp nx n) mk (nx + n) := by
  refine ⟨fun a ha => ?_, List.nodup_append.mpr ⟨H.2.1, pxUp_nodup n nx, fun a ha b hb e => ?_⟩, fun k k0 k1 => (H.2.2 k k0 k1).imp id (fun z => List.mem_append_left _ z)⟩
  · rcases List.mem_append.mp ha with z | z
    · have := H.1 a z; omega
    · rw [pxUp_mem] at z; omega
  · have := H.1 a ha
    rw [pxUp_mem] at hb
    omega
theorem pxIns_perm {α : Type} {l m : List α} {x : Int} : (pxIns l x m).Perm (l ++ m) := by
  unfold pxIns
  have h1 : (l.take (x - 1).toNat ++ (m ++ l.drop (x - 1).toNat)).Perm (l.take (x - 1).toNat ++ (l.drop (x - 1).toNat ++ m)) := List.Perm.append_left _ List.perm_append_comm
  rw [← List.append_assoc, ← List.append_assoc, List.take_append_drop] at h1
  rw [← List.append_assoc]
  exact h1
theorem pxDel_perm {α : Type} {l : List α} {x y n : Int} (x1 : 1 ≤ x) (n0 : 0 ≤ n) (e : y = x + n - 1) : l.Perm (pxDel l x n ++ pxSub l x y) := by
  unfold pxDel pxSub
  subst e
  rw [show (x + n - 1 - x + 1).toNat = n.toNat by omega]
  have e1 : l = l.take (x - 1).toNat ++ ((l.drop (x - 1).toNat).take n.toNat ++ l.drop (x - 1 + n).toNat) := by
    have a1 : (l.drop (x - 1).toNat).drop n.toNat = l.drop (x - 1 + n).toNat := by rw [List.drop_drop]; congr 1; omega
    rw [← a1, List.take_append_drop, List.take_append_drop]
  have h1 : (l.take (x - 1).toNat ++ ((l.drop (x - 1).toNat).take n.toNat ++ l.drop (x - 1 + n).toNat)).Perm (l.take (x - 1).toNat ++ (l.drop (x - 1 + n).toNat ++ (l.drop (x - 1).toNat).take n.toNat)) := List.Perm.append_left _ List.perm_append_comm
  rw [← e1, ← List.append_assoc] at h1
  exact h1
theorem pxIds_ins {l m : pxLs} {x : Int} : (pxIds (pxIns l x m)).Perm (pxIds l ++ pxIds m) := by
  have := (pxIns_perm (l := l) (m := m) (x := x)).map (·.1)
  rw [List.map_append] at this
  exact this
theorem pxIds_del {l : pxLs} {x y n : Int} (x1 : 1 ≤ x) (n0 : 0 ≤ n) (e : y = x + n - 1) : (pxIds l).Perm (pxIds (pxDel l x n) ++ pxIds (pxSub l x y)) := by
  have := (pxDel_perm (l := l) (x := x) (y := y) (n := n) x1 n0 e).map (·.1)
  rw [List.map_append] at this
  exact this
theorem pxIds_set {l : pxLs} {x : Int} {r : List Int} (x1 : 1 ≤ x) (x2 : x ≤ l.length) : pxIds (pxSet l x (pxId l x, r)) = pxIds l := by
  refine pxG_ext (d := (0 : Int)) (by unfold pxIds; rw [List.length_map, List.length_map, pxSet_len]) (fun y y1 y2 => ?_)
  unfold pxIds at y2 ⊢
  rw [List.length_map, pxSet_len] at y2
  rw [pxG_mapi (d := ((0 : Int), ([] : List Int))) y1 (by rw [pxSet_len]; exact y2), pxG_mapi (d := ((0 : Int), ([] : List Int))) y1 y2]
  by_cases e : y = x
  · subst e; rw [pxG_setE y1 y2]; rfl
  · rw [pxG_setN x1 y1 e]
theorem pxSwap_e {α : Type} {d : α} {l : List α} {x : Int} (x1 : 2 ≤ x) (x2 : x ≤ l.length) : pxSwap d l x = pxIns (pxDel l (x - 1) 1) x [pxG d l (x - 1)] := by
  have dl := pxDel_len (l := l) (x := x - 1) (n := 1) (by omega) (by omega) (by omega)
  refine pxG_ext (d := d) (by unfold pxSwap; rw [pxSet_len, pxSet_len, pxIns_len]; simp; omega) (fun y y1 y2 => ?_)
  have y2' : y ≤ l.length := by unfold pxSwap at y2; rw [pxSet_len, pxSet_len] at y2; exact y2
  unfold pxSwap
  by_cases e : y = x - 1
  · subst e
    rw [pxG_setE y1 (by rw [pxSet_len]; omega), pxIns_lo y1 (by omega) (by omega), pxDel_hi (by omega) (by omega) (by omega) (by omega)]
    congr 1; omega
  · rw [pxG_setN (by omega) y1 e]
    by_cases e2 : y = x
    · subst e2
      rw [pxG_setE y1 y2', pxIns_in (by omega) (by show y < y + ((1 : Nat) : Int); omega) (by omega) (by omega), show y - y + 1 = 1 by omega]
      rfl
    · rw [pxG_setN (by omega) y1 e2]
      by_cases c : y < x
      · rw [pxIns_lo y1 c (by omega), pxDel_lo y1 (by omega) (by omega)]
      · rw [pxIns_hi (by show x + ((1 : Nat) : Int) ≤ y; omega) (by omega) (by omega), pxDel_hi (by show x - 1 ≤ y - ((1 : Nat) : Int); omega) (by omega) (by omega) (by omega)]
        congr 1
        show y = y - ((1 : Nat) : Int) + 1
        omega
theorem pxSwap_perm {l : pxLs} {x : Int} (x1 : 2 ≤ x) (x2 : x ≤ l.length) : (pxSwap (0, []) l x).Perm l := by
  rw [pxSwap_e x1 x2]
  refine pxIns_perm.trans ?_
  have := pxDel_perm (l := l) (x := x - 1) (y := x - 1) (n := 1) (by omega) (by omega) (by omega)
  have e : pxSub l (x - 1) (x - 1) = [pxG (0, []) l (x - 1)] := by
    unfold pxSub
    rw [pxG_dropc (d := ((0 : Int), ([] : List Int))) (by omega) (by omega), show (x - 1 - (x - 1) + 1).toNat = 1 by omega]
    rfl
  rw [e] at this
  exact this.symm
theorem pxSift_perm {place : Int} {fall : Bool} : ∀ (m : Nat) (x : Int) (l : pxLs), (m : Int) + 1 ≤ x → x ≤ l.length → (pxSift place fall m x l).Perm l
  | 0, _, l, _, _ => .refl l
  | m + 1, x, l, h1, h2 => by
    unfold pxSift
    by_cases c : pxWrong place fall (pxAt l (x - 1)).2 (pxAt l x).2 = true
    · rw [if_pos c]
      have sl : (pxSwap ((0 : Int), ([] : List Int)) l x).length = l.length := by unfold pxSwap; rw [pxSet_len, pxSet_len]
      exact (pxSift_perm m (x - 1) _ (by omega) (by omega)).trans (pxSwap_perm (by omega) h2)
    · rw [if_neg c]
theorem pxSort_perm {place : Int} {fall : Bool} {f : Int} (f1 : 1 ≤ f) : ∀ (m : Nat) (x : Int) (l : pxLs), f ≤ x → x + m ≤ l.length + 1 → (pxSort place fall f m x l).Perm l
  | 0, _, l, _, _ => .refl l
  | m + 1, x, l, h1, h2 => by
    unfold pxSort
    have p := pxSift_perm (place := place) (fall := fall) (x - f).toNat x l (by omega) (by omega)
    exact (pxSort_perm f1 m (x + 1) _ (by omega) (by rw [p.length_eq]; omega)).trans p
theorem pxNoF_mem (id : Int) : ∀ (l : pxLs) (k : Int), 0 ≤ k → (pxNoF id l k = -1 ↔ ¬ id ∈ pxIds l)
  | [], k, _ => by
    show (-1 : Int) = -1 ↔ ¬ id ∈ ([] : List Int)
    simp
  | a :: r, k, k0 => by
    have ih := pxNoF_mem id r (k + 1) (by omega)
    have ma : pxIds (a :: r) = a.1 :: pxIds r := rfl
    show (if a.1 = id then k else pxNoF id r (k + 1)) = -1 ↔ _
    rw [ma, List.mem_cons]
    by_cases c : a.1 = id
    · rw [if_pos c]
      constructor
      · intro z; omega
      · intro z; exact absurd (Or.inl c.symm) z
    · rw [if_neg c, ih]
      constructor
      · intro z y
        rcases y with y | y
        · exact c y.symm
        · exact z y
      · intro z y; exact z (Or.inr y)
theorem pxNo_mem {ls : pxLs} {id : Int} : pxNo ls id = -1 ↔ ¬ id ∈ pxIds ls := pxNoF_mem id ls 1 (by omega)
