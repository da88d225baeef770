/-! what the law reads -/
section
variable {h : jw_H} {α : pzA} {n : Int}
theorem px_iw {β : Type} {v : Int32} {f : Int32 → Option β} : jw_iw (.inl v) f = f v := rfl
theorem pwA.rc (A : pwA h α) : jw_rc h 11 (some 0) = some 0 := px_rc A.1.1
theorem r_lines (A : pwA h α) : f_X11_lines h 0 = some (pxJ (α.2.2.1.1.length : Int), h) := by
  have X := A.2.2.2.1
  unfold f_X11_lines
  rw [A.1.r (6, 255) (by decide), px_bs, px_gR X.1.1, X.1.2.1, px_bs, px_gI X.2.1.1.1, px_bs, X.c2]
theorem r_present (A : pwA h α) : f_X11_present h 0 = some (pxJ α.2.2.1.2.2.1, h) := by
  have X := A.2.2.2.1
  unfold f_X11_present
  rw [A.1.r (6, 255) (by decide), px_bs, px_gI X.1.1, px_bs, X.2.2.2.2.1]
theorem r_reason (A : pwA h α) : f_X11_reason h 0 = some (pxJ α.2.2.2.2.2.2, h) := by
  unfold f_X11_reason
  rw [A.1.i, px_bs, A.2.2.2.2.2.2.2.1]
theorem r_deeds (A : pwA h α) : f_X11_deeds h 0 = some (pxJ (α.2.2.2.2.1.length : Int), h) := by
  obtain ⟨B, S, -, -, -, m3, -⟩ := A.2.2.2.2.2.1
  unfold f_X11_deeds
  rw [A.1.r (11, 282) (by decide), px_bs, px_gI S.1, px_bs, m3]
theorem r_length (A : pwA h α) {x : Int} (x1 : 1 ≤ x) (xn : x ≤ (α.2.2.1.1.length : Int)) : f_X11_length h 0 (pxJ x) = some (.inl (pxJ (pxLn (pxRs α.2.2.1.1) x)), h) := by
  have X := A.2.2.2.1
  have l40 := X.len
  have c : 1 ≤ x ∧ x ≤ ((pxRs α.2.2.1.1).length : Int) := ⟨x1, by rw [pxRs_len]; exact xn⟩
  unfold f_X11_length
  rw [A.1.r (6, 255) (by decide), px_bs, px_gR X.1.1, X.1.2.1, px_bs, px_rc X.2.1.1.1, px_bs, s_X7_has X.2.1 (by omega) (by omega), px_b2, if_pos c, if_neg (show ¬ (pxJ 1 = 0) by decide), A.1.r (6, 255) (by decide), px_bs, px_gR X.1.1, X.1.2.1, px_bs, px_rc X.2.1.1.1, px_bs, s_X7_lengthOf X.2.1 (by omega) (by omega), px_b2, pxLnA_t c]
theorem r_at (A : pwA h α) {x y : Int} (x1 : 1 ≤ x) (xn : x ≤ (α.2.2.1.1.length : Int)) (y0 : 0 ≤ y) (y1 : y < pxLn (pxRs α.2.2.1.1) x) : f_X11_at h 0 (pxJ x) (pxJ y) = some (.inl (pxJ (pxSg (pxRs α.2.2.1.1) x y)), h) := by
  have X := A.2.2.2.1
  have l40 := X.len
  have R := X.2.1
  have l30 := (pxRw_or R.2.2.1 x).1
  have y1' : y < ((pxRw (pxRs α.2.2.1.1) x).length : Int) := y1
  have c : 1 ≤ x ∧ x ≤ ((pxRs α.2.2.1.1).length : Int) ∧ 0 ≤ y ∧ y < pxLn (pxRs α.2.2.1.1) x := ⟨x1, by rw [pxRs_len]; exact xn, y0, y1⟩
  have ch := pxE_ch (pxRw_or R.2.2.1 x) c.2.2.1 c.2.2.2
  unfold pxCh at ch
  unfold f_X11_at
  rw [A.1.r (6, 255) (by decide), px_bs, px_gR X.1.1, X.1.2.1, px_bs, px_rc X.2.1.1.1, px_bs, s_X7_signAt R (by omega) (by omega) (by omega) (by omega), px_b2, pxSgA_t c, if_neg (show ¬ (pxJ (pxSg (pxRs α.2.2.1.1) x y) = (-1 : Int32)) from fun z => by
    rw [show (-1 : Int32) = pxJ (-1) by decide] at z
    have := (pxJ_eq (a := pxE (pxRw (pxRs α.2.2.1.1) x) y) (b := -1) (by omega) (by omega) (by omega) (by omega)).mp z
    omega)]
theorem r_id (A : pwA h α) {x : Int} (x1 : 1 ≤ x) (xn : x ≤ (α.2.2.1.1.length : Int)) : f_X11_id h 0 (pxJ x) = some (.inl (pxJ (pxId α.2.2.1.1 x)), h) := by
  have X := A.2.2.2.1
  have l40 := X.len
  have c : 1 ≤ x ∧ x ≤ (α.2.2.1.1.length : Int) := ⟨x1, xn⟩
  unfold f_X11_id
  rw [A.1.r (6, 255) (by decide), px_bs, px_gR X.1.1, X.1.2.1, px_bs, px_rc X.2.1.1.1, px_bs, s_X7_has X.2.1 (by omega) (by omega), px_b2, pxRs_len, if_pos c, if_neg (show ¬ (pxJ 1 = 0) by decide), A.1.r (6, 255) (by decide), px_bs, px_rc X.1.1, px_bs, s_X9_idOf X (by omega) (by omega), px_b2, if_pos c]
def qzMk (T : pxTx) (k : Nat) : Int := if T.2.1 (k : Int) = -1 then -1 else pxNo T.1 (T.2.1 (k : Int))
theorem r_mark (A : pwA h α) {k : Nat} (k5 : k < 5) : f_X11_mark h 0 (pxJ (k : Int)) = some (.inl (pxJ (qzMk α.2.2.1 k)), h) := by
  have X := A.2.2.2.1
  unfold f_X11_mark g_X11_mark_b9
  rw [if_neg (show ¬ (pxJ (k : Int) < (0 : Int32)) from fun z => by
    have := (pxJ_lt (a := (k : Int)) (b := 0) (by omega) (by omega) (by omega) (by omega)).mp z
    omega), if_pos (show pxJ (k : Int) < (5 : Int32) from (pxJ_lt (a := (k : Int)) (b := 5) (by omega) (by omega) (by omega) (by omega)).mpr (by omega)), A.1.r (6, 255) (by decide), px_bs, px_rc X.1.1, px_bs, s_X9_markedLine X (by omega) (by omega), px_b2]
  rfl
/-- the number of the rows -/
def qzHr (r : List Int) (H : Int64) : Int64 := r.foldl (fun H c => (31 : Int64) * H + (pxJ c).toInt64) H
def qzHs (rs : List (List Int)) (H : Int64) : Int64 := rs.foldl (fun H r => qzHr r ((31 : Int64) * H + (pxJ (r.length : Int)).toInt64)) H
theorem l_rows30 (A : pwA h α) {k6 : jw_H → Option Nat → Int64 → Int32 → Option (Int64 × jw_H)} {x : Nat} (x1 : 1 ≤ x) (xn : x ≤ α.2.2.1.1.length) : ∀ (m N y : Nat) (H : Int64), y + m = (pxRw (pxRs α.2.2.1.1) (x : Int)).length → m < N →
    f_L_rows_b30 k6 N h (some 0) H (pxJ (x : Int)) (pxJ (y : Int)) = k6 h (some 0) (qzHr ((pxRw (pxRs α.2.2.1.1) (x : Int)).drop y) H) (pxJ ((x : Int) + 1)) := by
  have l40 := A.2.2.2.1.len
  have l30 := (pxRw_or A.2.2.2.1.2.1.2.2.1 (x : Int)).1
  intro m
  induction m with
  | zero =>
    intro N y H hy hN
    obtain ⟨N, rfl, -⟩ := px_fu hN
    rw [u_L_rows_b30]
    unfold g_L_rows_b30
    rw [A.rc, px_bs, r_length A (by omega) (by omega), px_b2, px_iw, if_pos (show pxJ (pxLn (pxRs α.2.2.1.1) (x : Int)) ≤ pxJ (y : Int) from (pxJ_le (by unfold pxLn; omega) (by unfold pxLn; omega) (by omega) (by omega)).mpr (by unfold pxLn; omega)), List.drop_of_length_le (by omega), show pxJ (x : Int) + (1 : Int32) = pxJ ((x : Int) + 1) from pxJ_add _ 1]
    rfl
  | succ m ih =>
    intro N y H hy hN
    obtain ⟨N, rfl, hN⟩ := px_fu hN
    have yl : y < (pxRw (pxRs α.2.2.1.1) (x : Int)).length := by omega
    have eg : pxSg (pxRs α.2.2.1.1) (x : Int) (y : Int) = (pxRw (pxRs α.2.2.1.1) (x : Int))[y] := by
      show ((pxRw (pxRs α.2.2.1.1) (x : Int)).getD ((y : Int)).toNat 0) = _
      rw [show ((y : Int)).toNat = y by omega, List.getD_eq_getElem?_getD, List.getElem?_eq_getElem yl]
      rfl
    rw [u_L_rows_b30]
    unfold g_L_rows_b30
    rw [A.rc, px_bs, r_length A (by omega) (by omega), px_b2, px_iw, if_neg (show ¬ (pxJ (pxLn (pxRs α.2.2.1.1) (x : Int)) ≤ pxJ (y : Int)) from fun z => by
      have := (pxJ_le (a := pxLn (pxRs α.2.2.1.1) (x : Int)) (b := (y : Int)) (by unfold pxLn; omega) (by unfold pxLn; omega) (by omega) (by omega)).mp z
      unfold pxLn at this
      omega), A.rc, px_bs, r_at A (by omega) (by omega) (by omega) (by unfold pxLn; omega), px_b2, px_iw, show pxJ (y : Int) + (1 : Int32) = pxJ ((y + 1 : Nat) : Int) from pxJ_add _ 1, ih N (y + 1) _ (by omega) (by omega), List.drop_eq_getElem_cons yl, eg]
    rfl
theorem l_rows6 (A : pwA h α) : ∀ (m N x : Nat) (H : Int64), x + m = α.2.2.1.1.length + 1 → m < N → 1 ≤ x → f_L_rows_b6 N h (some 0) H (pxJ (x : Int)) = some (qzHs ((pxRs α.2.2.1.1).drop (x - 1)) H, h) := by
  have l40 := A.2.2.2.1.len
  intro m
  induction m with
  | zero =>
    intro N x H hx hN x1
    obtain ⟨N, rfl, -⟩ := px_fu hN
    rw [u_L_rows_b6]
    unfold g_L_rows_b6
    rw [A.rc, px_bs, r_lines A, px_b2, if_pos (show pxJ (α.2.2.1.1.length : Int) < pxJ (x : Int) from (pxJ_lt (by omega) (by omega) (by omega) (by omega)).mpr (by omega)), List.drop_of_length_le (by rw [pxRs_len]; omega)]
    rfl
  | succ m ih =>
    intro N x H hx hN x1
    obtain ⟨N, rfl, hN⟩ := px_fu hN
    have l30 := (pxRw_or A.2.2.2.1.2.1.2.2.1 (x : Int)).1
    have xl : x - 1 < (pxRs α.2.2.1.1).length := by rw [pxRs_len]; omega
    have eg : (pxRs α.2.2.1.1)[x - 1] = pxRw (pxRs α.2.2.1.1) (x : Int) := by
      show _ = (pxRs α.2.2.1.1).getD ((x : Int) - 1).toNat []
      rw [show ((x : Int) - 1).toNat = x - 1 by omega, List.getD_eq_getElem?_getD, List.getElem?_eq_getElem xl]
      rfl
    rw [u_L_rows_b6]
    unfold g_L_rows_b6
    rw [A.rc, px_bs, r_lines A, px_b2, if_neg (show ¬ (pxJ (α.2.2.1.1.length : Int) < pxJ (x : Int)) from fun z => by
      have := (pxJ_lt (a := (α.2.2.1.1.length : Int)) (b := (x : Int)) (by omega) (by omega) (by omega) (by omega)).mp z
      omega), A.rc, px_bs, r_length A (by omega) (by omega), px_b2, px_iw, show (0 : Int32) = pxJ ((0 : Nat) : Int) from rfl, l_rows30 A x1 (by omega) (pxRw (pxRs α.2.2.1.1) (x : Int)).length jw_FU 0 _ (by omega) (by unfold jw_FU; omega), List.drop_zero, show (x : Int) + 1 = ((x + 1 : Nat) : Int) by omega, ih N (x + 1) _ (by omega) (by omega) (by omega), List.drop_eq_getElem_cons xl, eg, show x + 1 - 1 = x - 1 + 1 by omega]
    rfl
theorem l_rows (A : pwA h α) : f_L_rows h (some 0) = some (qzHs (pxRs α.2.2.1.1) 17, h) := by
  have l40 := A.2.2.2.1.len
  unfold f_L_rows
  exact l_rows6 A α.2.2.1.1.length jw_FU 1 17 (by omega) (by unfold jw_FU; omega) (by omega)
def qzIh (ls : pxLs) (H : Int64) : Int64 := ls.foldl (fun H a => (31 : Int64) * H + (pxJ a.1).toInt64) H
def qzMh (T : pxTx) : Nat → Nat → Int64 → Int64
  | 0, _, H => H
  | m + 1, k, H => qzMh T m (k + 1) ((31 : Int64) * H + (pxJ (qzMk T k)).toInt64)
def qzAll (T : pxTx) : Int64 := qzMh T 5 0 (qzIh T.1 (qzHs (pxRs T.1) 17 * 31 + (pxJ T.2.2.1).toInt64))
theorem l_all46 (A : pwA h α) : ∀ (m N k : Nat) (H : Int64), k + m = 5 → m < N → f_L_all_b46 N h (some 0) H (pxJ (k : Int)) = some (qzMh α.2.2.1 m k H, h) := by
  intro m
  induction m with
  | zero =>
    intro N k H hk hN
    obtain ⟨N, rfl, -⟩ := px_fu hN
    rw [u_L_all_b46]
    unfold g_L_all_b46
    rw [if_pos (show (5 : Int32) ≤ pxJ (k : Int) from (pxJ_le (a := 5) (b := (k : Int)) (by omega) (by omega) (by omega) (by omega)).mpr (by omega))]
    rfl
  | succ m ih =>
    intro N k H hk hN
    obtain ⟨N, rfl, hN⟩ := px_fu hN
    rw [u_L_all_b46]
    unfold g_L_all_b46
    rw [if_neg (show ¬ ((5 : Int32) ≤ pxJ (k : Int)) from fun z => by
      have := (pxJ_le (a := 5) (b := (k : Int)) (by omega) (by omega) (by omega) (by omega)).mp z
      omega), A.rc, px_bs, r_mark A (by omega), px_b2, px_iw, show pxJ (k : Int) + (1 : Int32) = pxJ ((k + 1 : Nat) : Int) from pxJ_add _ 1, ih N (k + 1) _ (by omega) (by omega)]
    rfl
theorem l_all17 (A : pwA h α) : ∀ (m N x : Nat) (H : Int64), x + m = α.2.2.1.1.length + 1 → m < N → 1 ≤ x → f_L_all_b17 N h (some 0) H (pxJ (x : Int)) = some (qzMh α.2.2.1 5 0 (qzIh (α.2.2.1.1.drop (x - 1)) H), h) := by
  have l40 := A.2.2.2.1.len
  intro m
  induction m with
  | zero =>
    intro N x H hx hN x1
    obtain ⟨N, rfl, -⟩ := px_fu hN
    rw [u_L_all_b17]
    unfold g_L_all_b17
    rw [A.rc, px_bs, r_lines A, px_b2, if_pos (show pxJ (α.2.2.1.1.length : Int) < pxJ (x : Int) from (pxJ_lt (by omega) (by omega) (by omega) (by omega)).mpr (by omega)), show (0 : Int32) = pxJ ((0 : Nat) : Int) from rfl, l_all46 A 5 jw_FU 0 H rfl (by unfold jw_FU; omega), List.drop_of_length_le (by omega)]
    rfl
  | succ m ih =>
    intro N x H hx hN x1
    obtain ⟨N, rfl, hN⟩ := px_fu hN
    have xl : x - 1 < α.2.2.1.1.length := by omega
    have eg : (α.2.2.1.1)[x - 1] = pxAt α.2.2.1.1 (x : Int) := by
      show _ = (α.2.2.1.1).getD ((x : Int) - 1).toNat (0, [])
      rw [show ((x : Int) - 1).toNat = x - 1 by omega, List.getD_eq_getElem?_getD, List.getElem?_eq_getElem xl]
      rfl
    rw [u_L_all_b17]
    unfold g_L_all_b17
    rw [A.rc, px_bs, r_lines A, px_b2, if_neg (show ¬ (pxJ (α.2.2.1.1.length : Int) < pxJ (x : Int)) from fun z => by
      have := (pxJ_lt (a := (α.2.2.1.1.length : Int)) (b := (x : Int)) (by omega) (by omega) (by omega) (by omega)).mp z
      omega), A.rc, px_bs, r_id A (by omega) (by omega), px_b2, px_iw, show pxJ (x : Int) + (1 : Int32) = pxJ ((x + 1 : Nat) : Int) from pxJ_add _ 1, ih N (x + 1) _ (by omega) (by omega) (by omega), List.drop_eq_getElem_cons xl, eg, show x + 1 - 1 = x - 1 + 1 by omega]
    rfl
theorem l_all (A : pwA h α) : f_L_all h (some 0) = some (qzAll α.2.2.1, h) := by
  have l40 := A.2.2.2.1.len
  unfold f_L_all
  rw [l_rows A, px_b2, A.rc, px_bs, r_present A, px_b2]
  exact l_all17 A α.2.2.1.1.length jw_FU 1 _ (by omega) (by unfold jw_FU; omega) (by omega)
/-- the number of the lines, in whatever order -/
def qzLf (H : Int64) (a : Int × List Int) : Int64 := H + ((((1000003 : Int64) * (pxJ a.1).toInt64) * (pxJ a.1).toInt64) + (((131 : Int64) * (pxJ a.1).toInt64) * (pxJ (a.2.length : Int)).toInt64))
def qzLs (ls : pxLs) : Int64 := ls.foldl qzLf (pxJ (ls.length : Int)).toInt64
theorem qz_i64 {a b c : Int64} : a + b + c = a + c + b := by rw [Int64.add_assoc, Int64.add_comm b c, ← Int64.add_assoc]
theorem qz_lfc {H : Int64} {a b : Int × List Int} : qzLf (qzLf H a) b = qzLf (qzLf H b) a := by
  unfold qzLf
  exact qz_i64
theorem qz_lfp {l1 l2 : pxLs} (p : l1.Perm l2) : ∀ H : Int64, l1.foldl qzLf H = l2.foldl qzLf H := by
  induction p with
  | nil => intro H; rfl
  | cons x _ ih => intro H; exact ih (qzLf H x)
  | swap x y l =>
    intro H
    show l.foldl qzLf (qzLf (qzLf H y) x) = l.foldl qzLf (qzLf (qzLf H x) y)
    rw [qz_lfc]
  | trans _ _ i1 i2 => intro H; exact (i1 H).trans (i2 H)
theorem qz_lsp {l1 l2 : pxLs} (p : l1.Perm l2) : qzLs l1 = qzLs l2 := by
  unfold qzLs
  rw [p.length_eq]
  exact qz_lfp p _
theorem l_lines8 (A : pwA h α) : ∀ (m N x : Nat) (H : Int64), x + m = α.2.2.1.1.length + 1 → m < N → 1 ≤ x → f_L_lines_b8 N h (some 0) H (pxJ (x : Int)) = some ((α.2.2.1.1.drop (x - 1)).foldl qzLf H, h) := by
  have l40 := A.2.2.2.1.len
  intro m
  induction m with
  | zero =>
    intro N x H hx hN x1
    obtain ⟨N, rfl, -⟩ := px_fu hN
    rw [u_L_lines_b8]
    unfold g_L_lines_b8
    rw [A.rc, px_bs, r_lines A, px_b2, if_pos (show pxJ (α.2.2.1.1.length : Int) < pxJ (x : Int) from (pxJ_lt (by omega) (by omega) (by omega) (by omega)).mpr (by omega)), List.drop_of_length_le (by omega)]
    rfl
  | succ m ih =>
    intro N x H hx hN x1
    obtain ⟨N, rfl, hN⟩ := px_fu hN
    have xl : x - 1 < α.2.2.1.1.length := by omega
    have eg : (α.2.2.1.1)[x - 1] = pxAt α.2.2.1.1 (x : Int) := by
      show _ = (α.2.2.1.1).getD ((x : Int) - 1).toNat (0, [])
      rw [show ((x : Int) - 1).toNat = x - 1 by omega, List.getD_eq_getElem?_getD, List.getElem?_eq_getElem xl]
      rfl
    have el : pxLn (pxRs α.2.2.1.1) (x : Int) = ((pxAt α.2.2.1.1 (x : Int)).2.length : Int) := by
      unfold pxLn
      rw [pxRs_at]
    rw [u_L_lines_b8]
    unfold g_L_lines_b8
    rw [A.rc, px_bs, r_lines A, px_b2, if_neg (show ¬ (pxJ (α.2.2.1.1.length : Int) < pxJ (x : Int)) from fun z => by
      have := (pxJ_lt (a := (α.2.2.1.1.length : Int)) (b := (x : Int)) (by omega) (by omega) (by omega) (by omega)).mp z
      omega), A.rc, px_bs, r_id A (by omega) (by omega), px_b2, px_iw, A.rc, px_bs, r_id A (by omega) (by omega), px_b2, px_iw, A.rc, px_bs, r_id A (by omega) (by omega), px_b2, px_iw, A.rc, px_bs, r_length A (by omega) (by omega), px_b2, px_iw, show pxJ (x : Int) + (1 : Int32) = pxJ ((x + 1 : Nat) : Int) from pxJ_add _ 1, ih N (x + 1) _ (by omega) (by omega) (by omega), List.drop_eq_getElem_cons xl, eg, show x + 1 - 1 = x - 1 + 1 by omega, el]
    rfl
theorem l_lines (A : pwA h α) : f_L_lines h (some 0) = some (qzLs α.2.2.1.1, h) := by
  have l40 := A.2.2.2.1.len
  unfold f_L_lines
  rw [A.rc, px_bs, r_lines A, px_b2]
  exact l_lines8 A α.2.2.1.1.length jw_FU 1 _ (by omega) (by unfold jw_FU; omega) (by omega)
theorem qz_cmp (x : Int64) : lg_cmp x x = 0 := by
  unfold lg_cmp
  rw [if_neg (show ¬ x > x from Int64.lt_irrefl), if_pos rfl]
end
