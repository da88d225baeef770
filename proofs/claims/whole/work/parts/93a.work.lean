/-! the reference, line by line: the text that grows, the line that is worked on -/
/-- the new text -/
def pyNw (h : jw_H) (ls : pxLs) : Prop := pxM h 587 13 = ls.length ∧ ls.length ≤ 40 ∧ pxOk (pxRs ls) ∧ ∀ x : Int, 1 ≤ x → x ≤ ls.length → pyR h (40 + x) (pxAt ls x).2 ∧ pxM h 594 (x - 1).toNat = (pxAt ls x).1
theorem pyNw.keep {P : Nat → Nat → Prop} {h h1 : jw_H} {ls : pxLs} (N : pyNw h ls) (V : pyV P h h1) (n : ∀ k f, (k = 592 ∧ 1271 ≤ f ∧ f < 2511) ∨ k = 594 ∨ (k = 587 ∧ f = 13) → ¬ P k f) : pyNw h1 ls := by
  obtain ⟨e, l, ok, R⟩ := N
  refine ⟨by rw [V.m (n _ _ (by omega))]; exact e, l, ok, fun x x0 x1 => ?_⟩
  obtain ⟨a, b⟩ := R x x0 x1
  have l30 := (pyAt_or ok x).1
  exact ⟨a.keep V (by omega) l30 (fun f _ _ => n _ _ (by omega)), by rw [V.m (n _ _ (by omega))]; exact b⟩
/-- the marks, as they will be: of lines that live on -/
def pyMk (h : jw_H) (mk : Int → Int) (nx : Int) (live : List Int) : Prop := live.Nodup ∧ (∀ a ∈ live, 0 ≤ a ∧ a < nx) ∧ ∀ k : Int, 0 ≤ k → k < 5 → pxM h 596 k.toNat < nx ∧ mk k = if pxM h 596 k.toNat ∈ live then pxM h 596 k.toNat else -1
theorem pyMk.keep {P : Nat → Nat → Prop} {h h1 : jw_H} {mk : Int → Int} {nx : Int} {live : List Int} (M : pyMk h mk nx live) (V : pyV P h h1) (n : ∀ f : Nat, f < 5 → ¬ P 596 f) : pyMk h1 mk nx live := by
  obtain ⟨a, b, c⟩ := M
  refine ⟨a, b, fun k k0 k5 => ?_⟩
  rw [V.m (n _ (by omega))]
  exact c k k0 k5
theorem pyMk.perm {h : jw_H} {mk : Int → Int} {nx : Int} {live live' : List Int} (M : pyMk h mk nx live) (p : live.Perm live') : pyMk h mk nx live' := by
  obtain ⟨a, b, c⟩ := M
  refine ⟨p.nodup_iff.mp a, fun x hx => b x (p.mem_iff.mpr hx), fun k k0 k5 => ?_⟩
  obtain ⟨c1, c2⟩ := c k k0 k5
  refine ⟨c1, ?_⟩
  rw [c2]
  by_cases y : pxM h 596 k.toNat ∈ live
  · rw [if_pos y, if_pos (p.mem_iff.mp y)]
  · rw [if_neg y, if_neg (fun z => y (p.mem_iff.mpr z))]
theorem pyMk.new {h : jw_H} {mk : Int → Int} {nx : Int} {live : List Int} (M : pyMk h mk nx live) (n0 : 0 ≤ nx) : pyMk h mk (nx + 1) (nx :: live) := by
  obtain ⟨a, b, c⟩ := M
  refine ⟨List.nodup_cons.mpr ⟨fun z => by have := b _ z; omega, a⟩, fun x hx => ?_, fun k k0 k5 => ?_⟩
  · rcases List.mem_cons.mp hx with z | z
    · omega
    · have := b x z; omega
  · obtain ⟨c1, c2⟩ := c k k0 k5
    refine ⟨by omega, ?_⟩
    rw [c2]
    by_cases y : pxM h 596 k.toNat ∈ live
    · rw [if_pos y, if_pos (List.mem_cons_of_mem _ y)]
    · rw [if_neg y, if_neg (fun z => (List.mem_cons.mp z).elim (fun z => by omega) y)]
theorem pyMk.drop {h : jw_H} {mk : Int → Int} {nx id : Int} {live : List Int} (M : pyMk h mk nx (id :: live)) : pyMk h (pxDm mk id) nx live := by
  obtain ⟨a, b, c⟩ := M
  obtain ⟨a1, a2⟩ := List.nodup_cons.mp a
  have bi := b id (List.mem_cons_self ..)
  refine ⟨a2, fun x hx => b x (List.mem_cons_of_mem _ hx), fun k k0 k5 => ?_⟩
  obtain ⟨c1, c2⟩ := c k k0 k5
  refine ⟨c1, ?_⟩
  unfold pxDm
  rw [c2]
  by_cases e : pxM h 596 k.toNat = id
  · rw [e, if_pos (List.mem_cons_self ..), if_pos rfl, if_neg a1]
  · by_cases y : pxM h 596 k.toNat ∈ live
    · rw [if_pos (List.mem_cons_of_mem _ y), if_neg e, if_pos y]
    · rw [if_neg (fun z => (List.mem_cons.mp z).elim e y), if_neg y]
      split <;> rfl
theorem pyMk.unmark {h h1 : jw_H} {mk : Int → Int} {nx id : Int} {live : List Int} (M : pyMk h mk nx (id :: live)) (K : ∀ k : Int, 0 ≤ k → k < 5 → pxM h1 596 k.toNat = if pxM h 596 k.toNat = id then -1 else pxM h 596 k.toNat) : pyMk h1 (pxDm mk id) nx live := by
  obtain ⟨a, b, c⟩ := M.drop
  have bi := M.2.1 id (List.mem_cons_self ..)
  have a1 := (List.nodup_cons.mp M.1).1
  refine ⟨a, b, fun k k0 k5 => ?_⟩
  obtain ⟨c1, c2⟩ := c k k0 k5
  rw [K k k0 k5, c2]
  by_cases e : pxM h 596 k.toNat = id
  · rw [if_pos e, e, if_neg a1, if_neg (fun z => by have := b _ z; omega)]
    exact ⟨by omega, rfl⟩
  · rw [if_neg e]
    exact ⟨c1, rfl⟩
theorem pyMk.is {h : jw_H} {mk : Int → Int} {nx id : Int} {live : List Int} (M : pyMk h mk nx live) (i : id ∈ live) {k : Int} (k0 : 0 ≤ k) (k5 : k < 5) : pxM h 596 k.toNat = id ↔ mk k = id := by
  obtain ⟨a, b, c⟩ := M
  have bi := b id i
  obtain ⟨c1, c2⟩ := c k k0 k5
  rw [c2]
  constructor
  · intro e
    rw [e, if_pos i]
  · intro e
    by_cases y : pxM h 596 k.toNat ∈ live
    · rwa [if_pos y] at e
    · rw [if_neg y] at e
      omega
theorem pyMk.mark {h h1 : jw_H} {mk : Int → Int} {nx id x : Int} {live : List Int} (M : pyMk h mk nx live) (i : id ∈ live) (K : ∀ k : Int, 0 ≤ k → k < 5 → pxM h1 596 k.toNat = if k = x then id else pxM h 596 k.toNat) : pyMk h1 (fun j => if j = x then id else mk j) nx live := by
  obtain ⟨a, b, c⟩ := M
  have bi := b id i
  refine ⟨a, b, fun k k0 k5 => ?_⟩
  obtain ⟨c1, c2⟩ := c k k0 k5
  rw [K k k0 k5]
  show _ ∧ (if k = x then id else mk k) = _
  by_cases e : k = x
  · rw [if_pos e, if_pos e, if_pos i]
    exact ⟨by omega, rfl⟩
  · rw [if_neg e, if_neg e]
    exact ⟨c1, c2⟩
def pyQpt : Nat → Nat → Prop := fun k f => (k = 592 ∧ 1271 ≤ f ∧ f < 2511) ∨ k = 594 ∨ (k = 587 ∧ f = 13)
set_option maxHeartbeats 8000000 in
theorem n_put {h : jw_H} {ls : pxLs} {i id : Int} {r : List Int} (H : pyS h) (N : pyNw h ls) (R : pyR h i r) (okr : pxOr r) (i0 : 0 ≤ i) (i1 : i < 868) (ni : i < 41 ∨ 81 < i) (d0 : -2147483648 ≤ id) (d1 : id ≤ 2147483647) :
    pxW (f_X12_put h 587 (pxJ i) (pxJ id)) fun v h' => pyV pyQpt h h' ∧ v = pxJ (if ls.length < 40 then 0 else 4) ∧ (ls.length < 40 → pyNw h' (ls ++ [(id, r)])) := by
  have N0 := N
  obtain ⟨e13, l40, ok, A⟩ := N
  unfold f_X12_put
  by_cases c : ls.length < 40
  · rw [if_pos c, pyN_gI H, px_bs, e13, if_neg (show ¬ (pxJ (ls.length : Int) = (40 : Int32)) from py32 (a := (ls.length : Int)) (b := 40) (by omega) (by omega) (by omega) (by omega) (by omega)), px_bs, pyN_rc H, px_bs, show (41 : Int32) + pxJ (ls.length : Int) = pxJ (41 + ls.length) from pxJ_add 41 _]
    refine pxW_b2 (n_copyRow H i0 i1 (show (0 : Int) ≤ 41 + ls.length by omega) (by omega) (by omega)) fun _ h5 q => ?_
    obtain ⟨V5, C5⟩ := q
    have H5 := V5.s H
    have f13 : pxM h5 587 13 = ls.length := by rw [V5.m (by unfold pyQR; omega)]; exact e13
    rw [pyN_g8 H5, px_bs, pyN_gI H5, px_bs, f13, pyN_s594 H5 (by omega) (by omega), px_bs]
    have H6 : pyS (jw_setI h5 594 (ls.length : Int).toNat (pxJ id)) := H5
    rw [pyN_gI H6, px_bs, show pxM (jw_setI h5 594 (ls.length : Int).toNat (pxJ id)) 587 13 = (ls.length : Int) by rw [pxM_ne (by omega)]; exact f13, show pxJ (ls.length : Int) + (1 : Int32) = pxJ (ls.length + 1) from pxJ_add _ 1, pyN_pI H6, px_bs]
    have V6 : pyV (fun k f => (k = 594 ∧ f = ls.length) ∨ (k = 587 ∧ f = 13)) h5 (jw_setI (jw_setI h5 594 (ls.length : Int).toNat (pxJ id)) 587 13 (pxJ ((ls.length : Int) + 1))) := (pyV.rfl.set (by omega)).set (by omega)
    have g13 : pxM (jw_setI (jw_setI h5 594 (ls.length : Int).toNat (pxJ id)) 587 13 (pxJ ((ls.length : Int) + 1))) 587 13 = (ls.length : Int) + 1 := by rw [pxM_eq (by omega) (by omega)]
    have g594 : pxM (jw_setI (jw_setI h5 594 (ls.length : Int).toNat (pxJ id)) 587 13 (pxJ ((ls.length : Int) + 1))) 594 (ls.length : Int).toNat = id := by rw [pxM_ne (by omega), pxM_eq d0 d1]
    generalize jw_setI (jw_setI h5 594 (ls.length : Int).toNat (pxJ id)) 587 13 (pxJ ((ls.length : Int) + 1)) = h7 at *
    have el : (ls ++ [(id, r)]).length = ls.length + 1 := by rw [List.length_append]; rfl
    refine pxW_some.mpr ⟨(V5.mono (fun k f z => by unfold pyQR at z; unfold pyQpt; omega)).trans (V6.mono (fun k f z => by unfold pyQpt; omega)), rfl, fun _ => ⟨by rw [g13, el]; omega, by omega, ?_, fun x x0 x1 => ?_⟩⟩
    · unfold pxRs
      rw [List.map_append]
      exact pxOk_app ok (pxOk_one okr)
    · rw [el] at x1
      by_cases y : x = ls.length + 1
      · have ea : pxAt (ls ++ [(id, r)]) x = (id, r) := by unfold pxAt; exact pxG_app1 y
        rw [ea, y]
        refine ⟨?_, ?_⟩
        · have := C5 r okr.1 R
          rw [show (40 : Int) + ((ls.length : Int) + 1) = 41 + ls.length by omega]
          exact this.keep V6 (by omega) okr.1 (fun f _ _ => by omega)
        · rw [show (ls.length : Int) + 1 - 1 = ls.length by omega]
          exact g594
      · have ea : pxAt (ls ++ [(id, r)]) x = pxAt ls x := by unfold pxAt; exact pxG_appL x0 (by omega)
        rw [ea]
        obtain ⟨a, b⟩ := A x x0 (by omega)
        have l30 := (pyAt_or ok x).1
        refine ⟨(a.keep V5 (by omega) l30 (fun f _ _ => by unfold pyQR; omega)).keep V6 (by omega) l30 (fun f _ _ => by omega), ?_⟩
        rw [V6.m (by omega), V5.m (by unfold pyQR; omega)]
        exact b
  · rw [if_neg c, pyN_gI H, px_bs, e13, if_pos (show pxJ (ls.length : Int) = (40 : Int32) by rw [show (ls.length : Int) = 40 by omega]; rfl)]
    exact pxW_some.mpr ⟨pyV.rfl, rfl, fun z => absurd z c⟩
def pyQpn : Nat → Nat → Prop := fun k f => pyQpt k f ∨ (k = 587 ∧ f = 17)
theorem n_putNew {h : jw_H} {ls : pxLs} {i nx : Int} {r : List Int} (H : pyS h) (N : pyNw h ls) (R : pyR h i r) (okr : pxOr r) (i0 : 0 ≤ i) (i1 : i < 868) (ni : i < 41 ∨ 81 < i) (e17 : pxM h 587 17 = nx) (n0 : 0 ≤ nx) (n1 : nx ≤ 2000000100) :
    pxW (f_X12_putNew h 587 (pxJ i)) fun v h' => pyV pyQpn h h' ∧ v = pxJ (if ls.length < 40 then 0 else 4) ∧ (ls.length < 40 → pyNw h' (ls ++ [(nx, r)]) ∧ pxM h' 587 17 = nx + 1) := by
  unfold f_X12_putNew
  rw [pyN_gI H, px_bs, e17, pyN_rc H, px_bs]
  refine pxW_b2 (n_put H N R okr i0 i1 ni (by omega) (by omega)) fun v h3 q => ?_
  obtain ⟨V3, rfl, N3⟩ := q
  have H3 := V3.s H
  have f17 : pxM h3 587 17 = nx := by rw [V3.m (by unfold pyQpt; omega)]; exact e17
  rw [pyN_gI H3, px_bs, f17]
  unfold g_X12_putNew_b24
  have V3' : pyV pyQpn h h3 := V3.mono (fun k f z => Or.inl z)
  by_cases c : ls.length < 40
  · rw [if_pos c, if_pos (show pxJ 0 = 0 from rfl), show pxJ nx + (1 : Int32) = pxJ (nx + 1) from pxJ_add _ 1, pyN_pI H3, px_bs]
    have V4 : pyV (fun k f => k = 587 ∧ f = 17) h3 (jw_setI h3 587 17 (pxJ (nx + 1))) := pyV.rfl.set ⟨rfl, rfl⟩
    exact pxW_some.mpr ⟨V3'.trans (V4.mono (fun k f z => Or.inr z)), rfl, fun _ => ⟨(N3 c).keep V4 (fun k f z => by omega), by rw [pxM_eq (by omega) (by omega)]⟩⟩
  · rw [if_neg c, if_neg (show ¬ (pxJ 4 = 0) by decide), show pxJ nx + (0 : Int32) = pxJ nx by rw [show (0 : Int32) = pxJ 0 from rfl, pxJ_add, Int.add_zero], pyN_pI H3, px_bs]
    exact pxW_some.mpr ⟨V3'.set (Or.inr ⟨rfl, rfl⟩), rfl, fun z => absurd z c⟩
/-- rows that are due -/
def pyDu (h : jw_H) (came : Int) (due : List (List Int)) : Prop := ∃ m : Int, pxM h 587 72 = m ∧ 0 ≤ m ∧ m ≤ 61 * came ∧ (due.length : Int) = min m 41 ∧ pxOk due ∧ pyRs h 388 due
theorem pyDu.keep {P : Nat → Nat → Prop} {h h1 : jw_H} {came c2 : Int} {due : List (List Int)} (D : pyDu h came due) (V : pyV P h h1) (cc : came ≤ c2) (n : ∀ k f, (k = 592 ∧ 12028 ≤ f ∧ f < 13299) ∨ (k = 587 ∧ f = 72) → ¬ P k f) : pyDu h1 c2 due := by
  obtain ⟨m, e, m0, m1, l, ok, R⟩ := D
  exact ⟨m, by rw [V.m (n _ _ (by omega))]; exact e, m0, by omega, l, ok, R.keep V (by omega) ok (fun f _ _ => n _ _ (by omega))⟩
def pyQdu : Nat → Nat → Prop := fun k f => (k = 592 ∧ 12028 ≤ f ∧ f < 13299) ∨ (k = 587 ∧ f = 72)
set_option maxHeartbeats 8000000 in
theorem n_due {h : jw_H} {i m : Int} {r : List Int} {due : List (List Int)} (H : pyS h) (e72 : pxM h 587 72 = m) (m0 : 0 ≤ m) (m1 : m ≤ 1000000) (ld : (due.length : Int) = min m 41) (ok : pxOk due) (RS : pyRs h 388 due) (R : pyR h i r) (okr : pxOr r) (i0 : 0 ≤ i) (i1 : i < 868) (ni : i < 388 ∨ 428 < i) :
    pxW (f_X12_due h 587 (pxJ i)) fun _ h' => pyV pyQdu h h' ∧ pxM h' 587 72 = m + 1 ∧ ((pxBDue due [r]).length : Int) = min (m + 1) 41 ∧ pxOk (pxBDue due [r]) ∧ pyRs h' 388 (pxBDue due [r]) := by
  unfold f_X12_due
  have l30 := okr.1
  by_cases c : 41 ≤ m
  · have ed : pxBDue due [r] = due := by
      unfold pxBDue
      rw [List.take_append_of_le_length (by omega), List.take_of_length_le (by omega)]
    rw [ed, pyN_gI H, px_bs, e72, if_pos (show (41 : Int32) ≤ pxJ m by rw [show (41 : Int32) = pxJ 41 from rfl, pxJ_le (by omega) (by omega) (by omega) (by omega)]; exact c)]
    unfold g_X12_due_b22
    rw [pyN_gI H, px_bs, e72, show pxJ m + (1 : Int32) = pxJ (m + 1) from pxJ_add _ 1, pyN_pI H, px_bs]
    have V4 : pyV (fun k f => k = 587 ∧ f = 72) h (jw_setI h 587 72 (pxJ (m + 1))) := pyV.rfl.set ⟨rfl, rfl⟩
    exact pxW_some.mpr ⟨V4.mono (fun k f z => Or.inr z), by rw [pxM_eq (by omega) (by omega)], by omega, ok, RS.keep V4 (by omega) ok (fun f _ _ => by omega)⟩
  · have ed : pxBDue due [r] = due ++ [r] := by
      unfold pxBDue
      rw [List.take_of_length_le (by rw [List.length_append, List.length_singleton]; omega)]
    have el : (due ++ [r]).length = due.length + 1 := by rw [List.length_append]; rfl
    rw [ed, pyN_gI H, px_bs, e72, if_neg (show ¬ ((41 : Int32) ≤ pxJ m) by rw [show (41 : Int32) = pxJ 41 from rfl, pxJ_le (by omega) (by omega) (by omega) (by omega)]; exact c), px_bs, pyN_rc H, px_bs, show (388 : Int32) + pxJ m = pxJ (388 + m) from pxJ_add 388 _]
    refine pxW_b2 (n_copyRow H i0 i1 (show (0 : Int) ≤ 388 + m by omega) (by omega) (by omega)) fun _ h5 q => ?_
    obtain ⟨V5, C5⟩ := q
    have H5 := V5.s H
    have f72 : pxM h5 587 72 = m := by rw [V5.m (by unfold pyQR; omega)]; exact e72
    unfold g_X12_due_b22
    rw [pyN_gI H5, px_bs, f72, show pxJ m + (1 : Int32) = pxJ (m + 1) from pxJ_add _ 1, pyN_pI H5, px_bs]
    have V4 : pyV (fun k f => k = 587 ∧ f = 72) h5 (jw_setI h5 587 72 (pxJ (m + 1))) := pyV.rfl.set ⟨rfl, rfl⟩
    refine pxW_some.mpr ⟨(V5.mono (fun k f z => by unfold pyQR at z; unfold pyQdu; omega)).trans (V4.mono (fun k f z => Or.inr z)), by rw [pxM_eq (by omega) (by omega)], by rw [el]; omega, pxOk_app ok (pxOk_one okr), fun x x0 x1 => ?_⟩
    rw [el] at x1
    by_cases y : x = due.length + 1
    · have ea : pxRw (due ++ [r]) x = r := by unfold pxRw; exact pxG_app1 y
      rw [ea, y]
      have := C5 r l30 R
      rw [show (388 : Int) + ((due.length : Int) + 1) - 1 = 388 + m by omega]
      exact this.keep V4 (by omega) l30 (fun f _ _ => by omega)
    · have ea : pxRw (due ++ [r]) x = pxRw due x := by unfold pxRw; exact pxG_appL x0 (by omega)
      rw [ea]
      have a := RS x x0 (by omega)
      have la := (pxRw_or ok x).1
      exact (a.keep V5 (by omega) la (fun f _ _ => by unfold pyQR; omega)).keep V4 (by omega) la (fun f _ _ => by omega)
theorem pyDu.due {h : jw_H} {came i : Int} {r : List Int} {due : List (List Int)} (H : pyS h) (D : pyDu h came due) (c1 : came ≤ 10000) (R : pyR h i r) (okr : pxOr r) (i0 : 0 ≤ i) (i1 : i < 868) (ni : i < 388 ∨ 428 < i) :
    pxW (f_X12_due h 587 (pxJ i)) fun _ h' => pyV pyQdu h h' ∧ pyDu h' (came + 1) (pxBDue due [r]) := by
  obtain ⟨m, e, m0, m1, l, ok, RS⟩ := D
  refine pxW.mono (n_due H e m0 (by omega) l ok RS R okr i0 i1 ni) fun _ h' q => ?_
  exact ⟨q.1, m + 1, q.2.1, by omega, by omega, q.2.2.1, q.2.2.2.1, q.2.2.2.2⟩
/-- the work goes into the new text, and what is due -/
theorem n_putWork_b25 {due : List (List Int)} {m : Int} (m1 : m ≤ 1000000) (ld : (due.length : Int) = min m 41) (ok : pxOk due) {rest : List Int} : ∀ (d N : Nat) (h : jw_H) (k : Int) (F : pxFh), F.1.length + d = 40 → d + 1 < N → 0 ≤ k → k ≤ F.1.length → pyS h → pxM h 587 72 = m → pyRs h 388 due → pyNw h F.1 → pxM h 587 17 = F.2.2 → 0 ≤ F.2.2 → F.2.2 + d ≤ 2000000100 → pyMk h F.2.1 F.2.2 (pxIds F.1 ++ rest) →
    pxW (f_X12_putWork_b25 N h 587 (pxJ 0) (pxJ k)) fun v h' => pyV pyQpn h h' ∧ (pxBPut (due.drop k.toNat) F = none → v = pxJ 4) ∧ ∀ F', pxBPut (due.drop k.toNat) F = some F' → v = pxJ 0 ∧ pyNw h' F'.1 ∧ pxM h' 587 17 = F'.2.2 ∧ F'.2.2 - F'.1.length = F.2.2 - F.1.length ∧ F.2.2 ≤ F'.2.2 ∧ pyMk h' F'.2.1 F'.2.2 (pxIds F'.1 ++ rest) := by
  intro d
  induction d with
  | zero =>
    intro N h k F hd hN k0 kF H e72 RS N0 e17 n0 n1 M
    obtain ⟨N, rfl, hN⟩ := px_fu hN
    rw [u_X12_putWork_b25]
    unfold g_X12_putWork_b25
    rw [pyN_gI H, px_bs, e72]
    by_cases c : m ≤ k
    · rw [if_pos (show pxJ m ≤ pxJ k from (pxJ_le (by omega) (by omega) (by omega) (by omega)).mpr c)]
      rw [List.drop_eq_nil_of_le (by omega)]
      refine pxW_some.mpr ⟨pyV.rfl, fun z => (by cases z), fun F' z => ?_⟩
      obtain rfl := Option.some.inj z
      exact ⟨rfl, N0, e17, rfl, Int.le_refl _, M⟩
    · rw [if_neg (show ¬ (pxJ m ≤ pxJ k) from fun z => c ((pxJ_le (by omega) (by omega) (by omega) (by omega)).mp z)), if_pos (show pxJ 0 = 0 from rfl), pyN_rc H, px_bs, show (388 : Int32) + pxJ k = pxJ (388 + k) from pxJ_add 388 _]
      have kd : k < due.length := by omega
      have rk := RS (k + 1) (by omega) (by omega)
      rw [show (388 : Int) + (k + 1) - 1 = 388 + k by omega] at rk
      refine pxW_b2 (n_putNew H N0 rk (pxRw_or ok _) (by omega) (by omega) (by omega) e17 n0 (by omega)) fun v h5 q => ?_
      obtain ⟨V5, rfl, -⟩ := q
      have H5 := V5.s H
      rw [if_neg (show ¬ F.1.length < 40 by omega), show pxJ k + (1 : Int32) = pxJ (k + 1) from pxJ_add _ 1]
      obtain ⟨N, rfl⟩ : ∃ N', N = N' + 1 := ⟨N - 1, by omega⟩
      rw [u_X12_putWork_b25]
      unfold g_X12_putWork_b25
      rw [pyN_gI H5, px_bs]
      have ed : due.drop k.toNat = pxRw due (k + 1) :: due.drop (k + 1).toNat := by
        have := pxG_dropc (d := []) (l := due) (x := k + 1) (by omega) (by omega)
        rw [show k + 1 - 1 = k by omega] at this
        exact this
      have en : pxBPut (due.drop k.toNat) F = none := by
        rw [ed]
        unfold pxBPut
        rw [if_neg (by omega)]
      rw [en]
      by_cases y : pxJ (pxM h5 587 72) ≤ pxJ (k + 1)
      · rw [if_pos y]
        exact pxW_some.mpr ⟨V5, fun _ => rfl, fun F' z => by cases z⟩
      · rw [if_neg y, if_neg (show ¬ (pxJ 4 = 0) by decide)]
        exact pxW_some.mpr ⟨V5, fun _ => rfl, fun F' z => by cases z⟩
  | succ d ih =>
    intro N h k F hd hN k0 kF H e72 RS N0 e17 n0 n1 M
    obtain ⟨N, rfl, hN⟩ := px_fu hN
    rw [u_X12_putWork_b25]
    unfold g_X12_putWork_b25
    rw [pyN_gI H, px_bs, e72]
    by_cases c : m ≤ k
    · rw [if_pos (show pxJ m ≤ pxJ k from (pxJ_le (by omega) (by omega) (by omega) (by omega)).mpr c)]
      rw [List.drop_eq_nil_of_le (by omega)]
      refine pxW_some.mpr ⟨pyV.rfl, fun z => (by cases z), fun F' z => ?_⟩
      obtain rfl := Option.some.inj z
      exact ⟨rfl, N0, e17, rfl, Int.le_refl _, M⟩
    · rw [if_neg (show ¬ (pxJ m ≤ pxJ k) from fun z => c ((pxJ_le (by omega) (by omega) (by omega) (by omega)).mp z)), if_pos (show pxJ 0 = 0 from rfl), pyN_rc H, px_bs, show (388 : Int32) + pxJ k = pxJ (388 + k) from pxJ_add 388 _]
      have kd : k < due.length := by omega
      have rk := RS (k + 1) (by omega) (by omega)
      rw [show (388 : Int) + (k + 1) - 1 = 388 + k by omega] at rk
      refine pxW_b2 (n_putNew H N0 rk (pxRw_or ok _) (by omega) (by omega) (by omega) e17 n0 (by omega)) fun v h5 q => ?_
      obtain ⟨V5, rfl, N5⟩ := q
      have H5 := V5.s H
      have c40 : F.1.length < 40 := by omega
      obtain ⟨N5, f17⟩ := N5 c40
      rw [if_pos c40, show pxJ k + (1 : Int32) = pxJ (k + 1) from pxJ_add _ 1]
      have ed : due.drop k.toNat = pxRw due (k + 1) :: due.drop (k + 1).toNat := by
        have := pxG_dropc (d := []) (l := due) (x := k + 1) (by omega) (by omega)
        rw [show k + 1 - 1 = k by omega] at this
        exact this
      have en : pxBPut (due.drop k.toNat) F = pxBPut (due.drop (k + 1).toNat) (F.1 ++ [(F.2.2, pxRw due (k + 1))], F.2.1, F.2.2 + 1) := by
        rw [ed]
        show (if F.1.length < 40 then pxBPut (due.drop (k + 1).toNat) (F.1 ++ [(F.2.2, pxRw due (k + 1))], F.2.1, F.2.2 + 1) else none) = _
        rw [if_pos c40]
      rw [en]
      have M5 : pyMk h5 F.2.1 (F.2.2 + 1) (pxIds (F.1 ++ [(F.2.2, pxRw due (k + 1))]) ++ rest) := by
        have m1 := (M.keep V5 (fun f _ => by unfold pyQpn pyQpt; omega)).new n0
        refine m1.perm ?_
        unfold pxIds
        rw [List.map_append, List.append_assoc]
        exact List.perm_middle.symm
      have el : (F.1 ++ [(F.2.2, pxRw due (k + 1))]).length = F.1.length + 1 := by rw [List.length_append]; rfl
      refine pxW.mono (ih N h5 (k + 1) (F.1 ++ [(F.2.2, pxRw due (k + 1))], F.2.1, F.2.2 + 1) (by show (F.1 ++ [(F.2.2, pxRw due (k + 1))]).length + d = 40; omega) (by omega) (by omega) (by show k + 1 ≤ ((F.1 ++ [(F.2.2, pxRw due (k + 1))]).length : Int); omega) H5 (by rw [V5.m (by unfold pyQpn pyQpt; omega)]; exact e72) (RS.keep V5 (by omega) ok (fun f _ _ => by unfold pyQpn pyQpt; omega)) N5 f17 (by show 0 ≤ F.2.2 + 1; omega) (by show F.2.2 + 1 + (d : Int) ≤ 2000000100; omega) M5) fun v h' q => ?_
      obtain ⟨V6, q1, q2⟩ := q
      refine ⟨V5.trans V6, q1, fun F' z => ?_⟩
      obtain ⟨a1, a2, a3, a4, a5, a6⟩ := q2 F' z
      have a5' : F.2.2 + 1 ≤ F'.2.2 := a5
      refine ⟨a1, a2, a3, ?_, by omega, a6⟩
      rw [a4]
      show F.2.2 + 1 - ((F.1 ++ [(F.2.2, pxRw due (k + 1))]).length : Int) = _
      omega
