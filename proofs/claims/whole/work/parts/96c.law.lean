/-! the branches of the law -/
section
variable {Ls : Nat} {xs : Nat → Int32} {k23 : jw_H → Nat → Nat → Option Nat → Int32 → Option (Int32 × jw_H)} {Q : Int32 → jw_H → Prop} {h : jw_H} {α : pzA} {n : Nat} {x : Int32}
theorem b_1916 {R : pzR} {h' : jw_H} (P : pL (n + 1) h' R.2.2) (next : ∀ (h' : jw_H) (α' : pzA), pL (n + 1) h' α' → pxW (k23 h' 0 587 (some 619) (x + (4 : Int32))) Q) : pxW (g_L_law_b1916 Ls xs k23 h' 0 587 (some 619) x) Q := next h' _ P
theorem b_204 (P : pL n h α) (n6 : (n : Int) + 1 ≤ 600) {p : Int} (e1 : jw_xs Ls xs (x + (1 : Int32)) = some (pxJ p)) (p0 : -2147483648 ≤ p) (p1 : p ≤ 2147483647) (next : ∀ (h' : jw_H) (α' : pzA), pL (n + 1) h' α' → pxW (k23 h' 0 587 (some 619) (x + (4 : Int32))) Q) : pxW (g_L_law_b204 Ls xs k23 h 0 587 (some 619) x) Q := by
  unfold g_L_law_b204
  simp only [e1, px_bs]
  refine pL_thr (R := pz_type p α) P (ok_type P.2.2.1 n6) pz_type_c (w_type P.1 P.2.2.2.2.1 pz_type_c (c_type P.1 P.2.2.1.1 p0 p1)) ?_ ?_
  · exact fun h2 B => n_type B P.2.2.1.1 p0 p1
  · exact fun h' P' => b_1916 P' next
theorem b_260 (P : pL n h α) (n6 : (n : Int) + 1 ≤ 600) (next : ∀ (h' : jw_H) (α' : pzA), pL (n + 1) h' α' → pxW (k23 h' 0 587 (some 619) (x + (4 : Int32))) Q) : pxW (g_L_law_b260 Ls xs k23 h 0 587 (some 619) x) Q := by
  unfold g_L_law_b260
  rw [px_rc P.1.1.1, px_bs]
  refine pL_nt (R := pz_wipe α) P (ok_wipe P.2.2.1 n6) (c_wipe P.1 ) ?_ ?_
  · exact fun h2 B => n_wipe B 
  · exact fun h' P' => b_1916 P' next
theorem b_273 (P : pL n h α) (n6 : (n : Int) + 1 ≤ 600) (next : ∀ (h' : jw_H) (α' : pzA), pL (n + 1) h' α' → pxW (k23 h' 0 587 (some 619) (x + (4 : Int32))) Q) : pxW (g_L_law_b273 Ls xs k23 h 0 587 (some 619) x) Q := by
  unfold g_L_law_b273
  rw [px_rc P.1.1.1, px_bs]
  refine pL_nt (R := pz_fault α) P (ok_rd P.2.2.1 n6 rfl) (c_fault P.1 P.2.2.1.1) ?_ ?_
  · exact fun h2 B => n_fault B P.2.2.1.1
  · exact fun h' P' => b_1916 P' next
theorem b_286 (P : pL n h α) (n6 : (n : Int) + 1 ≤ 600) (next : ∀ (h' : jw_H) (α' : pzA), pL (n + 1) h' α' → pxW (k23 h' 0 587 (some 619) (x + (4 : Int32))) Q) : pxW (g_L_law_b286 Ls xs k23 h 0 587 (some 619) x) Q := by
  unfold g_L_law_b286
  rw [px_rc P.1.1.1, px_bs]
  refine pL_nt (R := pz_pf α) P (ok_rd P.2.2.1 n6 rfl) (c_patternFault P.1 P.2.2.1.1) ?_ ?_
  · exact fun h2 B => n_patternFault B P.2.2.1.1
  · exact fun h' P' => b_1916 P' next
theorem b_299 (P : pL n h α) (n6 : (n : Int) + 1 ≤ 600) (next : ∀ (h' : jw_H) (α' : pzA), pL (n + 1) h' α' → pxW (k23 h' 0 587 (some 619) (x + (4 : Int32))) Q) : pxW (g_L_law_b299 Ls xs k23 h 0 587 (some 619) x) Q := by
  unfold g_L_law_b299
  refine pL_thr (R := pz_run α) P (ok_run P.1 P.2.2.1 n6) (pz_run_c).to2 (w_run P.1 P.2.2.2.2.1 pz_run_c (c_run P.1 P.2.2.1)) ?_ ?_
  · exact fun h2 B => n_run B P.2.2.1
  · exact fun h' P' => b_1916 P' next
theorem b_343 (P : pL n h α) (n6 : (n : Int) + 1 ≤ 600) {p : Int} (e1 : jw_xs Ls xs (x + (1 : Int32)) = some (pxJ p)) (p0 : -2147483648 ≤ p) (p1 : p ≤ 2147483647) (next : ∀ (h' : jw_H) (α' : pzA), pL (n + 1) h' α' → pxW (k23 h' 0 587 (some 619) (x + (4 : Int32))) Q) : pxW (g_L_law_b343 Ls xs k23 h 0 587 (some 619) x) Q := by
  unfold g_L_law_b343
  simp only [e1, px_bs]
  refine pL_thr (R := pz_keep p α) P (ok_keep P.2.2.1 n6) pz_keep_c (w_keep P.1 P.2.2.2.2.1 pz_keep_c (c_keep P.1 P.2.2.1.1 p0 p1)) ?_ ?_
  · exact fun h2 B => n_keep B P.2.2.1 p0 p1
  · exact fun h' P' => b_1916 P' next
theorem b_399 (P : pL n h α) (n6 : (n : Int) + 1 ≤ 600) {p : Int} (e1 : jw_xs Ls xs (x + (1 : Int32)) = some (pxJ p)) (p0 : -2147483648 ≤ p) (p1 : p ≤ 2147483647) (next : ∀ (h' : jw_H) (α' : pzA), pL (n + 1) h' α' → pxW (k23 h' 0 587 (some 619) (x + (4 : Int32))) Q) : pxW (g_L_law_b399 Ls xs k23 h 0 587 (some 619) x) Q := by
  unfold g_L_law_b399
  simp only [e1, px_bs]
  refine pL_thr (R := pz_play p α) P (ok_play P.1 P.2.2.1 n6) pz_play_c (w_play P.1 P.2.2.2.2.1 pz_play_c (c_play P.1 P.2.2.1 p0 p1)) ?_ ?_
  · exact fun h2 B => n_play B P.2.2.1 p0 p1
  · exact fun h' P' => b_1916 P' next
theorem b_455 (P : pL n h α) (n6 : (n : Int) + 1 ≤ 600) {p : Int} (e1 : jw_xs Ls xs (x + (1 : Int32)) = some (pxJ p)) (p0 : -2147483648 ≤ p) (p1 : p ≤ 2147483647) (next : ∀ (h' : jw_H) (α' : pzA), pL (n + 1) h' α' → pxW (k23 h' 0 587 (some 619) (x + (4 : Int32))) Q) : pxW (g_L_law_b455 Ls xs k23 h 0 587 (some 619) x) Q := by
  unfold g_L_law_b455
  simp only [e1, px_bs]
  refine pL_thr (R := pz_stream p α) P (ok_stream P.2.1 P.2.2.1 n6) pz_stream_c (w_stream P.1 P.2.2.2.2.1 pz_stream_c (c_stream P.1 P.2.2.1 p0 p1)) ?_ ?_
  · exact fun h2 B => n_stream B P.2.2.1 p0 p1
  · exact fun h' P' => b_1916 P' next
theorem b_511 (P : pL n h α) (n6 : (n : Int) + 1 ≤ 600) (next : ∀ (h' : jw_H) (α' : pzA), pL (n + 1) h' α' → pxW (k23 h' 0 587 (some 619) (x + (4 : Int32))) Q) : pxW (g_L_law_b511 Ls xs k23 h 0 587 (some 619) x) Q := by
  unfold g_L_law_b511
  rw [px_rc P.1.1.1, px_bs]
  refine pL_nt (R := pz_reason α) P (ok_rd P.2.2.1 n6 rfl) (c_reason P.1 ) ?_ ?_
  · exact fun h2 B => n_reason B 
  · exact fun h' P' => b_1916 P' next
theorem b_524 (P : pL n h α) (n6 : (n : Int) + 1 ≤ 600) {p : Int} (e1 : jw_xs Ls xs (x + (1 : Int32)) = some (pxJ p)) (p0 : -2147483648 ≤ p) (p1 : p ≤ 2147483647) (next : ∀ (h' : jw_H) (α' : pzA), pL (n + 1) h' α' → pxW (k23 h' 0 587 (some 619) (x + (4 : Int32))) Q) : pxW (g_L_law_b524 Ls xs k23 h 0 587 (some 619) x) Q := by
  unfold g_L_law_b524
  simp only [e1, px_bs]
  refine pL_thr (R := pz_scl p α) P (ok_rd P.2.2.1 n6 pz_scl_r) (pz_scl_c).to2 (w_scriptLength P.1 P.2.2.2.2.1 pz_scl_c (c_scriptLength P.1 p0 p1)) ?_ ?_
  · exact fun h2 B => n_scriptLength B p0 p1
  · exact fun h' P' => b_1916 P' next
theorem b_580 (P : pL n h α) (n6 : (n : Int) + 1 ≤ 600) {p : Int} (e1 : jw_xs Ls xs (x + (1 : Int32)) = some (pxJ p)) (p0 : -2147483648 ≤ p) (p1 : p ≤ 2147483647) {q : Int} (e2 : jw_xs Ls xs (x + (2 : Int32)) = some (pxJ q)) (q0 : -2147483648 ≤ q) (q1 : q ≤ 2147483647) (next : ∀ (h' : jw_H) (α' : pzA), pL (n + 1) h' α' → pxW (k23 h' 0 587 (some 619) (x + (4 : Int32))) Q) : pxW (g_L_law_b580 Ls xs k23 h 0 587 (some 619) x) Q := by
  unfold g_L_law_b580
  simp only [e1, e2, px_bs]
  refine pL_thr (R := pz_sca p q α) P (ok_rd P.2.2.1 n6 pz_sca_r) (pz_sca_c).to2 (w_scriptAt P.1 P.2.2.2.2.1 pz_sca_c (c_scriptAt P.1 P.2.2.1 p0 p1 q0 q1)) ?_ ?_
  · exact fun h2 B => n_scriptAt B P.2.2.1 p0 p1 q0 q1
  · exact fun h' P' => b_1916 P' next
theorem b_648 (P : pL n h α) (n6 : (n : Int) + 1 ≤ 600) (next : ∀ (h' : jw_H) (α' : pzA), pL (n + 1) h' α' → pxW (k23 h' 0 587 (some 619) (x + (4 : Int32))) Q) : pxW (g_L_law_b648 Ls xs k23 h 0 587 (some 619) x) Q := by
  unfold g_L_law_b648
  refine pL_thr (R := pz_undo α) P (ok_undo P.2.2.1 n6) (pz_undo_c).to2 (w_undo P.1 P.2.2.2.2.1 pz_undo_c (c_undo P.1 )) ?_ ?_
  · exact fun h2 B => n_undo B 
  · exact fun h' P' => b_1916 P' next
theorem b_692 (P : pL n h α) (n6 : (n : Int) + 1 ≤ 600) (next : ∀ (h' : jw_H) (α' : pzA), pL (n + 1) h' α' → pxW (k23 h' 0 587 (some 619) (x + (4 : Int32))) Q) : pxW (g_L_law_b692 Ls xs k23 h 0 587 (some 619) x) Q := by
  unfold g_L_law_b692
  refine pL_thr (R := pz_undoRun α) P (ok_undoRun P.2.2.1 n6) (pz_undoRun_c).to2 (w_undoRun P.1 P.2.2.2.2.1 pz_undoRun_c (c_undoRun P.1 (fun d hd => ((P.2.2.1.2.2.2.2.1) d hd).2))) ?_ ?_
  · exact fun h2 B => n_undoRun B (fun d hd => ((P.2.2.1.2.2.2.2.1) d hd).2)
  · exact fun h' P' => b_1916 P' next
theorem b_736 (P : pL n h α) (n6 : (n : Int) + 1 ≤ 600) (next : ∀ (h' : jw_H) (α' : pzA), pL (n + 1) h' α' → pxW (k23 h' 0 587 (some 619) (x + (4 : Int32))) Q) : pxW (g_L_law_b736 Ls xs k23 h 0 587 (some 619) x) Q := by
  unfold g_L_law_b736
  rw [px_rc P.1.1.1, px_bs]
  refine pL_nt (R := pz_deeds α) P (ok_rd P.2.2.1 n6 rfl) (c_deeds P.1 ) ?_ ?_
  · exact fun h2 B => n_deeds B 
  · exact fun h' P' => b_1916 P' next
theorem b_749 (P : pL n h α) (n6 : (n : Int) + 1 ≤ 600) (next : ∀ (h' : jw_H) (α' : pzA), pL (n + 1) h' α' → pxW (k23 h' 0 587 (some 619) (x + (4 : Int32))) Q) : pxW (g_L_law_b749 Ls xs k23 h 0 587 (some 619) x) Q := by
  unfold g_L_law_b749
  rw [px_rc P.1.1.1, px_bs]
  refine pL_nt (R := pz_lines α) P (ok_rd P.2.2.1 n6 rfl) (c_lines P.1 ) ?_ ?_
  · exact fun h2 B => n_lines B 
  · exact fun h' P' => b_1916 P' next
theorem b_762 (P : pL n h α) (n6 : (n : Int) + 1 ≤ 600) {p : Int} (e1 : jw_xs Ls xs (x + (1 : Int32)) = some (pxJ p)) (p0 : -2147483648 ≤ p) (p1 : p ≤ 2147483647) (next : ∀ (h' : jw_H) (α' : pzA), pL (n + 1) h' α' → pxW (k23 h' 0 587 (some 619) (x + (4 : Int32))) Q) : pxW (g_L_law_b762 Ls xs k23 h 0 587 (some 619) x) Q := by
  unfold g_L_law_b762
  simp only [e1, px_bs]
  refine pL_thr (R := pz_len (pxRs α.2.2.1.1) p α) P (ok_rd P.2.2.1 n6 pz_len_r) (pz_len_c).to2 (w_length P.1 P.2.2.2.2.1 pz_len_c (c_length P.1 p0 p1)) ?_ ?_
  · exact fun h2 B => n_length B p0 p1
  · exact fun h' P' => b_1916 P' next
theorem b_818 (P : pL n h α) (n6 : (n : Int) + 1 ≤ 600) {p : Int} (e1 : jw_xs Ls xs (x + (1 : Int32)) = some (pxJ p)) (p0 : -2147483648 ≤ p) (p1 : p ≤ 2147483647) {q : Int} (e2 : jw_xs Ls xs (x + (2 : Int32)) = some (pxJ q)) (q0 : -2147483648 ≤ q) (q1 : q ≤ 2147483647) (next : ∀ (h' : jw_H) (α' : pzA), pL (n + 1) h' α' → pxW (k23 h' 0 587 (some 619) (x + (4 : Int32))) Q) : pxW (g_L_law_b818 Ls xs k23 h 0 587 (some 619) x) Q := by
  unfold g_L_law_b818
  simp only [e1, e2, px_bs]
  refine pL_thr (R := pz_at (pxRs α.2.2.1.1) p q α) P (ok_rd P.2.2.1 n6 pz_at_r) (pz_at_c).to2 (w_at P.1 P.2.2.2.2.1 pz_at_c (c_at P.1 p0 p1 q0 q1)) ?_ ?_
  · exact fun h2 B => n_at B p0 p1 q0 q1
  · exact fun h' P' => b_1916 P' next
theorem b_886 (P : pL n h α) (n6 : (n : Int) + 1 ≤ 600) {p : Int} (e1 : jw_xs Ls xs (x + (1 : Int32)) = some (pxJ p)) (p0 : -2147483648 ≤ p) (p1 : p ≤ 2147483647) (next : ∀ (h' : jw_H) (α' : pzA), pL (n + 1) h' α' → pxW (k23 h' 0 587 (some 619) (x + (4 : Int32))) Q) : pxW (g_L_law_b886 Ls xs k23 h 0 587 (some 619) x) Q := by
  unfold g_L_law_b886
  simp only [e1, px_bs]
  refine pL_thr (R := pz_id p α) P (ok_rd P.2.2.1 n6 pz_id_r) (pz_id_c).to2 (w_id P.1 P.2.2.2.2.1 pz_id_c (c_id P.1 p0 p1)) ?_ ?_
  · exact fun h2 B => n_id B p0 p1
  · exact fun h' P' => b_1916 P' next
theorem b_942 (P : pL n h α) (n6 : (n : Int) + 1 ≤ 600) {p : Int} (e1 : jw_xs Ls xs (x + (1 : Int32)) = some (pxJ p)) (p0 : -2147483648 ≤ p) (p1 : p ≤ 2147483647) (next : ∀ (h' : jw_H) (α' : pzA), pL (n + 1) h' α' → pxW (k23 h' 0 587 (some 619) (x + (4 : Int32))) Q) : pxW (g_L_law_b942 Ls xs k23 h 0 587 (some 619) x) Q := by
  unfold g_L_law_b942
  simp only [e1, px_bs]
  rw [px_rc P.1.1.1, px_bs]
  refine pL_nt (R := pz_lineOf p α) P (ok_rd P.2.2.1 n6 rfl) (c_lineOf P.1 p0 p1) ?_ ?_
  · exact fun h2 B => n_lineOf B p0 p1
  · exact fun h' P' => b_1916 P' next
theorem b_967 (P : pL n h α) (n6 : (n : Int) + 1 ≤ 600) (next : ∀ (h' : jw_H) (α' : pzA), pL (n + 1) h' α' → pxW (k23 h' 0 587 (some 619) (x + (4 : Int32))) Q) : pxW (g_L_law_b967 Ls xs k23 h 0 587 (some 619) x) Q := by
  unfold g_L_law_b967
  rw [px_rc P.1.1.1, px_bs]
  refine pL_nt (R := pz_present α) P (ok_rd P.2.2.1 n6 rfl) (c_present P.1 ) ?_ ?_
  · exact fun h2 B => n_present B 
  · exact fun h' P' => b_1916 P' next
theorem b_980 (P : pL n h α) (n6 : (n : Int) + 1 ≤ 600) {p : Int} (e1 : jw_xs Ls xs (x + (1 : Int32)) = some (pxJ p)) (p0 : -2147483648 ≤ p) (p1 : p ≤ 2147483647) (next : ∀ (h' : jw_H) (α' : pzA), pL (n + 1) h' α' → pxW (k23 h' 0 587 (some 619) (x + (4 : Int32))) Q) : pxW (g_L_law_b980 Ls xs k23 h 0 587 (some 619) x) Q := by
  unfold g_L_law_b980
  simp only [e1, px_bs]
  refine pL_thr (R := pz_mark p α) P (ok_rd P.2.2.1 n6 pz_mark_r) (pz_mark_c).to2 (w_mark P.1 P.2.2.2.2.1 pz_mark_c (c_mark P.1 p0 p1)) ?_ ?_
  · exact fun h2 B => n_mark B P.2.2.1.2.2.1 P.nb p0 p1
  · exact fun h' P' => b_1916 P' next
theorem b_1036 (P : pL n h α) (n6 : (n : Int) + 1 ≤ 600) {p : Int} (e1 : jw_xs Ls xs (x + (1 : Int32)) = some (pxJ p)) (p0 : -2147483648 ≤ p) (p1 : p ≤ 2147483647) {q : Int} (e2 : jw_xs Ls xs (x + (2 : Int32)) = some (pxJ q)) (q0 : -2147483648 ≤ q) (q1 : q ≤ 2147483647) (next : ∀ (h' : jw_H) (α' : pzA), pL (n + 1) h' α' → pxW (k23 h' 0 587 (some 619) (x + (4 : Int32))) Q) : pxW (g_L_law_b1036 Ls xs k23 h 0 587 (some 619) x) Q := by
  unfold g_L_law_b1036
  simp only [e1, e2, px_bs]
  refine pL_thr (R := pz_sample p q α) P (ok_sample P.2.2.1 n6) pz_sample_c (w_sample P.1 P.2.2.2.2.1 pz_sample_c (c_sample P.1 P.2.2.2.1 P.2.2.1.2.2.1 P.c0 P.c1 P.nb1 p0 p1 q0 q1)) ?_ ?_
  · exact fun h2 B => n_sample B P.2.2.1.2.2.1 P.c1 P.nb1 p0 p1 q0 q1 P.c0
  · exact fun h' P' => b_1916 P' next
theorem b_1104 (P : pL n h α) (n6 : (n : Int) + 1 ≤ 600) (next : ∀ (h' : jw_H) (α' : pzA), pL (n + 1) h' α' → pxW (k23 h' 0 587 (some 619) (x + (4 : Int32))) Q) : pxW (g_L_law_b1104 Ls xs k23 h 0 587 (some 619) x) Q := by
  unfold g_L_law_b1104
  rw [px_rc P.1.1.1, px_bs]
  refine pL_nt (R := pz_held α) P (ok_rd P.2.2.1 n6 rfl) (c_held P.1 ) ?_ ?_
  · exact fun h2 B => n_held B 
  · exact fun h' P' => b_1916 P' next
theorem b_1117 (P : pL n h α) (n6 : (n : Int) + 1 ≤ 600) {p : Int} (e1 : jw_xs Ls xs (x + (1 : Int32)) = some (pxJ p)) (p0 : -2147483648 ≤ p) (p1 : p ≤ 2147483647) (next : ∀ (h' : jw_H) (α' : pzA), pL (n + 1) h' α' → pxW (k23 h' 0 587 (some 619) (x + (4 : Int32))) Q) : pxW (g_L_law_b1117 Ls xs k23 h 0 587 (some 619) x) Q := by
  unfold g_L_law_b1117
  simp only [e1, px_bs]
  refine pL_thr (R := pz_len α.2.2.2.1.1 p α) P (ok_rd P.2.2.1 n6 pz_len_r) (pz_len_c).to2 (w_heldLength P.1 P.2.2.2.2.1 pz_len_c (c_heldLength P.1 p0 p1)) ?_ ?_
  · exact fun h2 B => n_heldLength B p0 p1
  · exact fun h' P' => b_1916 P' next
theorem b_1173 (P : pL n h α) (n6 : (n : Int) + 1 ≤ 600) {p : Int} (e1 : jw_xs Ls xs (x + (1 : Int32)) = some (pxJ p)) (p0 : -2147483648 ≤ p) (p1 : p ≤ 2147483647) {q : Int} (e2 : jw_xs Ls xs (x + (2 : Int32)) = some (pxJ q)) (q0 : -2147483648 ≤ q) (q1 : q ≤ 2147483647) (next : ∀ (h' : jw_H) (α' : pzA), pL (n + 1) h' α' → pxW (k23 h' 0 587 (some 619) (x + (4 : Int32))) Q) : pxW (g_L_law_b1173 Ls xs k23 h 0 587 (some 619) x) Q := by
  unfold g_L_law_b1173
  simp only [e1, e2, px_bs]
  refine pL_thr (R := pz_at α.2.2.2.1.1 p q α) P (ok_rd P.2.2.1 n6 pz_at_r) (pz_at_c).to2 (w_heldAt P.1 P.2.2.2.2.1 pz_at_c (c_heldAt P.1 p0 p1 q0 q1)) ?_ ?_
  · exact fun h2 B => n_heldAt B p0 p1 q0 q1
  · exact fun h' P' => b_1916 P' next
theorem b_1241 (P : pL n h α) (n6 : (n : Int) + 1 ≤ 600) (next : ∀ (h' : jw_H) (α' : pzA), pL (n + 1) h' α' → pxW (k23 h' 0 587 (some 619) (x + (4 : Int32))) Q) : pxW (g_L_law_b1241 Ls xs k23 h 0 587 (some 619) x) Q := by
  unfold g_L_law_b1241
  rw [px_rc P.1.1.1, px_bs]
  refine pL_nt (R := pz_outs α) P (ok_rd P.2.2.1 n6 rfl) (c_outs P.1 ) ?_ ?_
  · exact fun h2 B => n_outs B 
  · exact fun h' P' => b_1916 P' next
theorem b_1254 (P : pL n h α) (n6 : (n : Int) + 1 ≤ 600) {p : Int} (e1 : jw_xs Ls xs (x + (1 : Int32)) = some (pxJ p)) (p0 : -2147483648 ≤ p) (p1 : p ≤ 2147483647) (next : ∀ (h' : jw_H) (α' : pzA), pL (n + 1) h' α' → pxW (k23 h' 0 587 (some 619) (x + (4 : Int32))) Q) : pxW (g_L_law_b1254 Ls xs k23 h 0 587 (some 619) x) Q := by
  unfold g_L_law_b1254
  simp only [e1, px_bs]
  refine pL_thr (R := pz_len α.2.2.2.1.2.1 p α) P (ok_rd P.2.2.1 n6 pz_len_r) (pz_len_c).to2 (w_outLength P.1 P.2.2.2.2.1 pz_len_c (c_outLength P.1 p0 p1)) ?_ ?_
  · exact fun h2 B => n_outLength B p0 p1
  · exact fun h' P' => b_1916 P' next
theorem b_1310 (P : pL n h α) (n6 : (n : Int) + 1 ≤ 600) {p : Int} (e1 : jw_xs Ls xs (x + (1 : Int32)) = some (pxJ p)) (p0 : -2147483648 ≤ p) (p1 : p ≤ 2147483647) {q : Int} (e2 : jw_xs Ls xs (x + (2 : Int32)) = some (pxJ q)) (q0 : -2147483648 ≤ q) (q1 : q ≤ 2147483647) (next : ∀ (h' : jw_H) (α' : pzA), pL (n + 1) h' α' → pxW (k23 h' 0 587 (some 619) (x + (4 : Int32))) Q) : pxW (g_L_law_b1310 Ls xs k23 h 0 587 (some 619) x) Q := by
  unfold g_L_law_b1310
  simp only [e1, e2, px_bs]
  refine pL_thr (R := pz_at α.2.2.2.1.2.1 p q α) P (ok_rd P.2.2.1 n6 pz_at_r) (pz_at_c).to2 (w_outAt P.1 P.2.2.2.2.1 pz_at_c (c_outAt P.1 p0 p1 q0 q1)) ?_ ?_
  · exact fun h2 B => n_outAt B p0 p1 q0 q1
  · exact fun h' P' => b_1916 P' next
theorem b_1378 (P : pL n h α) (n6 : (n : Int) + 1 ≤ 600) (next : ∀ (h' : jw_H) (α' : pzA), pL (n + 1) h' α' → pxW (k23 h' 0 587 (some 619) (x + (4 : Int32))) Q) : pxW (g_L_law_b1378 Ls xs k23 h 0 587 (some 619) x) Q := by
  unfold g_L_law_b1378
  rw [px_rc P.1.1.1, px_bs]
  refine pL_nt (R := pz_clearOut α) P (ok_clearOut P.2.2.1 n6) (c_clearOut P.1 ) ?_ ?_
  · exact fun h2 B => n_clearOut B 
  · exact fun h' P' => b_1916 P' next
theorem b_1391 (P : pL n h α) (n6 : (n : Int) + 1 ≤ 600) {p : Int} (e1 : jw_xs Ls xs (x + (1 : Int32)) = some (pxJ p)) (p0 : -2147483648 ≤ p) (p1 : p ≤ 2147483647) (next : ∀ (h' : jw_H) (α' : pzA), pL (n + 1) h' α' → pxW (k23 h' 0 587 (some 619) (x + (4 : Int32))) Q) : pxW (g_L_law_b1391 Ls xs k23 h 0 587 (some 619) x) Q := by
  unfold g_L_law_b1391
  simp only [e1, px_bs]
  refine pL_thr (R := pz_frows p α) P (ok_rd P.2.2.1 n6 pz_frows_r) (pz_frows_c).to2 (w_fileRows P.1 P.2.2.2.2.1 pz_frows_c (c_fileRows P.1 p0 p1)) ?_ ?_
  · exact fun h2 B => n_fileRows B p0 p1
  · exact fun h' P' => b_1916 P' next
theorem b_1447 (P : pL n h α) (n6 : (n : Int) + 1 ≤ 600) {p : Int} (e1 : jw_xs Ls xs (x + (1 : Int32)) = some (pxJ p)) (p0 : -2147483648 ≤ p) (p1 : p ≤ 2147483647) {q : Int} (e2 : jw_xs Ls xs (x + (2 : Int32)) = some (pxJ q)) (q0 : -2147483648 ≤ q) (q1 : q ≤ 2147483647) (next : ∀ (h' : jw_H) (α' : pzA), pL (n + 1) h' α' → pxW (k23 h' 0 587 (some 619) (x + (4 : Int32))) Q) : pxW (g_L_law_b1447 Ls xs k23 h 0 587 (some 619) x) Q := by
  unfold g_L_law_b1447
  simp only [e1, e2, px_bs]
  refine pL_thr (R := pz_flen p q α) P (ok_rd P.2.2.1 n6 pz_flen_r) (pz_flen_c).to2 (w_fileLength P.1 P.2.2.2.2.1 pz_flen_c (c_fileLength P.1 p0 p1 q0 q1)) ?_ ?_
  · exact fun h2 B => n_fileLength B p0 p1 q0 q1
  · exact fun h' P' => b_1916 P' next
theorem b_1515 (P : pL n h α) (n6 : (n : Int) + 1 ≤ 600) {p : Int} (e1 : jw_xs Ls xs (x + (1 : Int32)) = some (pxJ p)) (p0 : -2147483648 ≤ p) (p1 : p ≤ 2147483647) {q : Int} (e2 : jw_xs Ls xs (x + (2 : Int32)) = some (pxJ q)) (q0 : -2147483648 ≤ q) (q1 : q ≤ 2147483647) {r : Int} (e3 : jw_xs Ls xs (x + (3 : Int32)) = some (pxJ r)) (r0 : -2147483648 ≤ r) (r1 : r ≤ 2147483647) (next : ∀ (h' : jw_H) (α' : pzA), pL (n + 1) h' α' → pxW (k23 h' 0 587 (some 619) (x + (4 : Int32))) Q) : pxW (g_L_law_b1515 Ls xs k23 h 0 587 (some 619) x) Q := by
  unfold g_L_law_b1515
  simp only [e1, e2, e3, px_bs]
  refine pL_thr (R := pz_fat p q r α) P (ok_rd P.2.2.1 n6 pz_fat_r) (pz_fat_c).to2 (w_fileAt P.1 P.2.2.2.2.1 pz_fat_c (c_fileAt P.1 p0 p1 q0 q1 r0 r1)) ?_ ?_
  · exact fun h2 B => n_fileAt B p0 p1 q0 q1 r0 r1
  · exact fun h' P' => b_1916 P' next
theorem b_1610 {b : Bool} {p : Int} (P : pL n h α) (n6 : (n : Int) + 1 ≤ 600) (e1 : jw_xs Ls xs (x + (1 : Int32)) = some (pxJ p)) (eb : (pxJ p = 0) = (b = false)) (next : ∀ (h' : jw_H) (α' : pzA), pL (n + 1) h' α' → pxW (k23 h' 0 587 (some 619) (x + (4 : Int32))) Q) : pxW (g_L_law_b1610 Ls xs k23 h 0 587 (some 619) x 0 (pxJ (if b = true then 1 else 0))) Q := by
  unfold g_L_law_b1610
  simp only [e1, px_bs]
  have e : (fun (w2 : Int32) (h1 : jw_H) => if pxJ p = 0 then g_L_law_b1631 Ls xs k23 h1 0 587 (some 619) x w2 587 (0 : Int32) else g_L_law_b1631 Ls xs k23 h1 0 587 (some 619) x w2 587 (1 : Int32)) = fun (w2 : Int32) (h1 : jw_H) => g_L_law_b1631 Ls xs k23 h1 0 587 (some 619) x w2 587 (pxJ (if b = true then 1 else 0)) := by
    funext w2 h1
    by_cases c : pxJ p = 0
    · have d : b = false := eb.mp c
      rw [if_pos c, d]
      rfl
    · have d : b = true := by
        cases b with
        | true => rfl
        | false => exact absurd (eb.mpr rfl) c
      rw [if_neg c, d]
      rfl
  rw [e]
  unfold g_L_law_b1631
  refine pL_thr (R := pz_find b α) P (ok_rd P.2.2.1 n6 pz_find_r) (pz_find_c).to2 (w_find P.1 P.2.2.2.2.1 pz_find_c (c_find P.1 P.2.2.1.1 P.2.2.1.2.2.1)) ?_ ?_
  · exact fun h2 B => n_find B P.2.2.1
  · exact fun h' P' => b_1916 P' next
theorem b_1595 (P : pL n h α) (n6 : (n : Int) + 1 ≤ 600) {p : Int} (e1 : jw_xs Ls xs (x + (1 : Int32)) = some (pxJ p)) (p0 : -2147483648 ≤ p) (p1 : p ≤ 2147483647) (next : ∀ (h' : jw_H) (α' : pzA), pL (n + 1) h' α' → pxW (k23 h' 0 587 (some 619) (x + (4 : Int32))) Q) : pxW (g_L_law_b1595 Ls xs k23 h 0 587 (some 619) x) Q := by
  unfold g_L_law_b1595
  rw [e1, px_bs]
  by_cases c : pxJ p = 0
  · rw [if_pos c]
    exact b_1610 (b := false) P n6 e1 (propext ⟨fun _ => rfl, fun _ => c⟩) next
  · rw [if_neg c]
    exact b_1610 (b := true) P n6 e1 (propext ⟨fun z => absurd z c, fun z => absurd z (by decide)⟩) next
theorem b_1667 (P : pL n h α) (n6 : (n : Int) + 1 ≤ 600) {p : Int} (e1 : jw_xs Ls xs (x + (1 : Int32)) = some (pxJ p)) (p0 : -2147483648 ≤ p) (p1 : p ≤ 2147483647) (next : ∀ (h' : jw_H) (α' : pzA), pL (n + 1) h' α' → pxW (k23 h' 0 587 (some 619) (x + (4 : Int32))) Q) : pxW (g_L_law_b1667 Ls xs k23 h 0 587 (some 619) x) Q := by
  unfold g_L_law_b1667
  simp only [e1, px_bs]
  refine pL_thr (R := pz_fse false p α) P (ok_rd P.2.2.1 n6 pz_fse_r) pz_fse_c (w_findStart P.1 P.2.2.2.2.1 pz_fse_c (c_findStart P.1 P.2.2.1.1 p0 p1)) ?_ ?_
  · exact fun h2 B => n_findStart B P.2.2.1 p0 p1
  · exact fun h' P' => b_1916 P' next
theorem b_1723 (P : pL n h α) (n6 : (n : Int) + 1 ≤ 600) {p : Int} (e1 : jw_xs Ls xs (x + (1 : Int32)) = some (pxJ p)) (p0 : -2147483648 ≤ p) (p1 : p ≤ 2147483647) (next : ∀ (h' : jw_H) (α' : pzA), pL (n + 1) h' α' → pxW (k23 h' 0 587 (some 619) (x + (4 : Int32))) Q) : pxW (g_L_law_b1723 Ls xs k23 h 0 587 (some 619) x) Q := by
  unfold g_L_law_b1723
  simp only [e1, px_bs]
  refine pL_thr (R := pz_fse true p α) P (ok_rd P.2.2.1 n6 pz_fse_r) pz_fse_c (w_findEnd P.1 P.2.2.2.2.1 pz_fse_c (c_findEnd P.1 P.2.2.1.1 p0 p1)) ?_ ?_
  · exact fun h2 B => n_findEnd B P.2.2.1 p0 p1
  · exact fun h' P' => b_1916 P' next
theorem b_1779 (P : pL n h α) (n6 : (n : Int) + 1 ≤ 600) {p : Int} (e1 : jw_xs Ls xs (x + (1 : Int32)) = some (pxJ p)) (p0 : -2147483648 ≤ p) (p1 : p ≤ 2147483647) (next : ∀ (h' : jw_H) (α' : pzA), pL (n + 1) h' α' → pxW (k23 h' 0 587 (some 619) (x + (4 : Int32))) Q) : pxW (g_L_law_b1779 Ls xs k23 h 0 587 (some 619) x) Q := by
  unfold g_L_law_b1779
  simp only [e1, px_bs]
  refine pL_thr (R := pz_differ p α) P (ok_rd P.2.2.1 n6 pz_differ_r) (pz_differ_c).to2 (w_differ P.1 P.2.2.2.2.1 pz_differ_c (c_differ P.1 p0 p1)) ?_ ?_
  · exact fun h2 B => n_differ B p0 p1
  · exact fun h' P' => b_1916 P' next
theorem b_1835 (P : pL n h α) (n6 : (n : Int) + 1 ≤ 600) {p : Int} (e1 : jw_xs Ls xs (x + (1 : Int32)) = some (pxJ p)) (p0 : -2147483648 ≤ p) (p1 : p ≤ 2147483647) {q : Int} (e2 : jw_xs Ls xs (x + (2 : Int32)) = some (pxJ q)) (q0 : -2147483648 ≤ q) (q1 : q ≤ 2147483647) (next : ∀ (h' : jw_H) (α' : pzA), pL (n + 1) h' α' → pxW (k23 h' 0 587 (some 619) (x + (4 : Int32))) Q) : pxW (g_L_law_b1835 Ls xs k23 h 0 587 (some 619) x) Q := by
  unfold g_L_law_b1835
  simp only [e1, e2, px_bs]
  refine pL_thr (R := pz_pairOf p q α) P (ok_rd P.2.2.1 n6 pz_pairOf_r) (pz_pairOf_c).to2 (w_pairOf P.1 P.2.2.2.2.1 pz_pairOf_c (c_pairOf P.1 p0 p1 q0 q1)) ?_ ?_
  · exact fun h2 B => n_pairOf B p0 p1 q0 q1
  · exact fun h' P' => b_1916 P' next
theorem b_1903 (P : pL n h α) (n6 : (n : Int) + 1 ≤ 600) (next : ∀ (h' : jw_H) (α' : pzA), pL (n + 1) h' α' → pxW (k23 h' 0 587 (some 619) (x + (4 : Int32))) Q) : pxW (g_L_law_b1903 Ls xs k23 h 0 587 (some 619) x) Q := by
  unfold g_L_law_b1903
  rw [px_rc P.1.1.1, px_bs]
  refine pL_nt (R := pz_isSound α) P (ok_rd P.2.2.1 n6 rfl) (c_isSound P.1 P.2.2.1.2.2.1 P.nb) ?_ ?_
  · exact fun h2 B => n_isSound B P.2.2.1.2.2.1 P.nb
  · exact fun h' P' => b_1916 P' next
end
/-! the law's loop -/
theorem px_xs {Ls : Nat} {xs : Nat → Int32} {z : Int} (h0 : 0 ≤ z) (h1 : z < Ls) (h2 : Ls ≤ 2048) : ∃ p : Int, jw_xs Ls xs (pxJ z) = some (pxJ p) ∧ -2147483648 ≤ p ∧ p ≤ 2147483647 := by
  obtain ⟨p, e, p0, p1⟩ := pxJ_in (xs z.toNat)
  refine ⟨p, ?_, p0, p1⟩
  unfold jw_xs
  rw [pxJ_cl (by omega) (by omega), if_neg, e]
  intro y
  rcases y with y | y
  · have := (pxJ_lt (a := z) (b := 0) (by omega) (by omega) (by omega) (by omega)).mp y
    omega
  · omega
section
variable {Ls : Nat} {xs : Nat → Int32}
set_option maxHeartbeats 4000000 in
theorem law_b23 (hL : Ls ≤ 2048) : ∀ (m N : Nat) (h : jw_H) (α : pzA) (n : Nat), n + m = Ls / 4 → m < N → pL n h α →
    pxW (f_L_law_b23 Ls xs N h 0 587 (some 619) (pxJ (4 * (n : Int)))) fun r h' => r = 1 ∧ jw_c h' ≤ 601024 ∧ jw_s h' ≤ 7293034 := by
  intro m
  induction m with
  | zero =>
    intro N h α n hn hN P
    obtain ⟨N, rfl, -⟩ := px_fu hN
    obtain ⟨-, -, -, p4, p5, p6, p7⟩ := P
    rw [u_L_law_b23]
    unfold g_L_law_b23
    rw [pxJ_ofNat, show pxJ (Ls : Int) - (4 : Int32) = pxJ ((Ls : Int) - 4) from pxJ_sub _ 4, if_pos (show pxJ ((Ls : Int) - 4) < pxJ (4 * (n : Int)) from (pxJ_lt (by omega) (by omega) (by omega) (by omega)).mpr (by omega))]
    exact pxW_some.mpr ⟨rfl, by omega, by omega⟩
  | succ m ih =>
    intro N h α n hn hN P
    obtain ⟨N, rfl, hN⟩ := px_fu hN
    have n6 : (n : Int) + 1 ≤ 600 := by omega
    have go : ∀ (h' : jw_H) (α' : pzA), pL (n + 1) h' α' → pxW (f_L_law_b23 Ls xs N h' 0 587 (some 619) (pxJ (4 * (n : Int)) + (4 : Int32))) fun r h' => r = 1 ∧ jw_c h' ≤ 601024 ∧ jw_s h' ≤ 7293034 := fun h' α' P' => by
      rw [show pxJ (4 * (n : Int)) + (4 : Int32) = pxJ (4 * ((n + 1 : Nat) : Int)) by rw [show (4 : Int32) = pxJ 4 from rfl, pxJ_add, show 4 * (n : Int) + 4 = 4 * ((n + 1 : Nat) : Int) by omega]]
      exact ih N h' α' (n + 1) (by omega) (by omega) P'
    obtain ⟨w, e0, w0, w1⟩ := px_xs (xs := xs) (z := 4 * (n : Int)) (by omega) (by omega) hL
    obtain ⟨p, e1, p0, p1⟩ := px_xs (xs := xs) (z := 4 * (n : Int) + 1) (by omega) (by omega) hL
    obtain ⟨q, e2, q0, q1⟩ := px_xs (xs := xs) (z := 4 * (n : Int) + 2) (by omega) (by omega) hL
    obtain ⟨r, e3, r0, r1⟩ := px_xs (xs := xs) (z := 4 * (n : Int) + 3) (by omega) (by omega) hL
    rw [show pxJ (4 * (n : Int) + 1) = pxJ (4 * (n : Int)) + (1 : Int32) from (pxJ_add _ 1).symm] at e1
    rw [show pxJ (4 * (n : Int) + 2) = pxJ (4 * (n : Int)) + (2 : Int32) from (pxJ_add _ 2).symm] at e2
    rw [show pxJ (4 * (n : Int) + 3) = pxJ (4 * (n : Int)) + (3 : Int32) from (pxJ_add _ 3).symm] at e3
    rw [u_L_law_b23]
    unfold g_L_law_b23
    rw [pxJ_ofNat, show pxJ (Ls : Int) - (4 : Int32) = pxJ ((Ls : Int) - 4) from pxJ_sub _ 4, if_neg (show ¬ (pxJ ((Ls : Int) - 4) < pxJ (4 * (n : Int))) from fun z => by
      have := (pxJ_lt (a := (Ls : Int) - 4) (b := 4 * (n : Int)) (by omega) (by omega) (by omega) (by omega)).mp z
      omega), e0, px_bs]
    by_cases c0 : (pxJ w &&& (63 : Int32)) = (0 : Int32)
    · rw [if_pos c0]
      exact b_204 P n6 e1 p0 p1 go
    rw [if_neg c0]
    clear c0
    by_cases c1 : (pxJ w &&& (63 : Int32)) = (1 : Int32)
    · rw [if_pos c1]
      exact b_260 P n6 go
    rw [if_neg c1]
    clear c1
    by_cases c2 : (pxJ w &&& (63 : Int32)) = (2 : Int32)
    · rw [if_pos c2]
      exact b_273 P n6 go
    rw [if_neg c2]
    clear c2
    by_cases c3 : (pxJ w &&& (63 : Int32)) = (3 : Int32)
    · rw [if_pos c3]
      exact b_286 P n6 go
    rw [if_neg c3]
    clear c3
    by_cases c4 : (pxJ w &&& (63 : Int32)) = (4 : Int32)
    · rw [if_pos c4]
      exact b_299 P n6 go
    rw [if_neg c4]
    clear c4
    by_cases c5 : (pxJ w &&& (63 : Int32)) = (5 : Int32)
    · rw [if_pos c5]
      exact b_343 P n6 e1 p0 p1 go
    rw [if_neg c5]
    clear c5
    by_cases c6 : (pxJ w &&& (63 : Int32)) = (6 : Int32)
    · rw [if_pos c6]
      exact b_399 P n6 e1 p0 p1 go
    rw [if_neg c6]
    clear c6
    by_cases c7 : (pxJ w &&& (63 : Int32)) = (7 : Int32)
    · rw [if_pos c7]
      exact b_455 P n6 e1 p0 p1 go
    rw [if_neg c7]
    clear c7
    by_cases c8 : (pxJ w &&& (63 : Int32)) = (8 : Int32)
    · rw [if_pos c8]
      exact b_511 P n6 go
    rw [if_neg c8]
    clear c8
    by_cases c9 : (pxJ w &&& (63 : Int32)) = (9 : Int32)
    · rw [if_pos c9]
      exact b_524 P n6 e1 p0 p1 go
    rw [if_neg c9]
    clear c9
    by_cases c10 : (pxJ w &&& (63 : Int32)) = (10 : Int32)
    · rw [if_pos c10]
      exact b_580 P n6 e1 p0 p1 e2 q0 q1 go
    rw [if_neg c10]
    clear c10
    by_cases c11 : (pxJ w &&& (63 : Int32)) = (11 : Int32)
    · rw [if_pos c11]
      exact b_648 P n6 go
    rw [if_neg c11]
    clear c11
    by_cases c12 : (pxJ w &&& (63 : Int32)) = (12 : Int32)
    · rw [if_pos c12]
      exact b_692 P n6 go
    rw [if_neg c12]
    clear c12
    by_cases c13 : (pxJ w &&& (63 : Int32)) = (13 : Int32)
    · rw [if_pos c13]
      exact b_736 P n6 go
    rw [if_neg c13]
    clear c13
    by_cases c14 : (pxJ w &&& (63 : Int32)) = (14 : Int32)
    · rw [if_pos c14]
      exact b_749 P n6 go
    rw [if_neg c14]
    clear c14
    by_cases c15 : (pxJ w &&& (63 : Int32)) = (15 : Int32)
    · rw [if_pos c15]
      exact b_762 P n6 e1 p0 p1 go
    rw [if_neg c15]
    clear c15
    by_cases c16 : (pxJ w &&& (63 : Int32)) = (16 : Int32)
    · rw [if_pos c16]
      exact b_818 P n6 e1 p0 p1 e2 q0 q1 go
    rw [if_neg c16]
    clear c16
    by_cases c17 : (pxJ w &&& (63 : Int32)) = (17 : Int32)
    · rw [if_pos c17]
      exact b_886 P n6 e1 p0 p1 go
    rw [if_neg c17]
    clear c17
    by_cases c18 : (pxJ w &&& (63 : Int32)) = (18 : Int32)
    · rw [if_pos c18]
      exact b_942 P n6 e1 p0 p1 go
    rw [if_neg c18]
    clear c18
    by_cases c19 : (pxJ w &&& (63 : Int32)) = (19 : Int32)
    · rw [if_pos c19]
      exact b_967 P n6 go
    rw [if_neg c19]
    clear c19
    by_cases c20 : (pxJ w &&& (63 : Int32)) = (20 : Int32)
    · rw [if_pos c20]
      exact b_980 P n6 e1 p0 p1 go
    rw [if_neg c20]
    clear c20
    by_cases c21 : (pxJ w &&& (63 : Int32)) = (21 : Int32)
    · rw [if_pos c21]
      exact b_1036 P n6 e1 p0 p1 e2 q0 q1 go
    rw [if_neg c21]
    clear c21
    by_cases c22 : (pxJ w &&& (63 : Int32)) = (22 : Int32)
    · rw [if_pos c22]
      exact b_1104 P n6 go
    rw [if_neg c22]
    clear c22
    by_cases c23 : (pxJ w &&& (63 : Int32)) = (23 : Int32)
    · rw [if_pos c23]
      exact b_1117 P n6 e1 p0 p1 go
    rw [if_neg c23]
    clear c23
    by_cases c24 : (pxJ w &&& (63 : Int32)) = (24 : Int32)
    · rw [if_pos c24]
      exact b_1173 P n6 e1 p0 p1 e2 q0 q1 go
    rw [if_neg c24]
    clear c24
    by_cases c25 : (pxJ w &&& (63 : Int32)) = (25 : Int32)
    · rw [if_pos c25]
      exact b_1241 P n6 go
    rw [if_neg c25]
    clear c25
    by_cases c26 : (pxJ w &&& (63 : Int32)) = (26 : Int32)
    · rw [if_pos c26]
      exact b_1254 P n6 e1 p0 p1 go
    rw [if_neg c26]
    clear c26
    by_cases c27 : (pxJ w &&& (63 : Int32)) = (27 : Int32)
    · rw [if_pos c27]
      exact b_1310 P n6 e1 p0 p1 e2 q0 q1 go
    rw [if_neg c27]
    clear c27
    by_cases c28 : (pxJ w &&& (63 : Int32)) = (28 : Int32)
    · rw [if_pos c28]
      exact b_1378 P n6 go
    rw [if_neg c28]
    clear c28
    by_cases c29 : (pxJ w &&& (63 : Int32)) = (29 : Int32)
    · rw [if_pos c29]
      exact b_1391 P n6 e1 p0 p1 go
    rw [if_neg c29]
    clear c29
    by_cases c30 : (pxJ w &&& (63 : Int32)) = (30 : Int32)
    · rw [if_pos c30]
      exact b_1447 P n6 e1 p0 p1 e2 q0 q1 go
    rw [if_neg c30]
    clear c30
    by_cases c31 : (pxJ w &&& (63 : Int32)) = (31 : Int32)
    · rw [if_pos c31]
      exact b_1515 P n6 e1 p0 p1 e2 q0 q1 e3 r0 r1 go
    rw [if_neg c31]
    clear c31
    by_cases c32 : (pxJ w &&& (63 : Int32)) = (32 : Int32)
    · rw [if_pos c32]
      exact b_1595 P n6 e1 p0 p1 go
    rw [if_neg c32]
    clear c32
    by_cases c33 : (pxJ w &&& (63 : Int32)) = (33 : Int32)
    · rw [if_pos c33]
      exact b_1667 P n6 e1 p0 p1 go
    rw [if_neg c33]
    clear c33
    by_cases c34 : (pxJ w &&& (63 : Int32)) = (34 : Int32)
    · rw [if_pos c34]
      exact b_1723 P n6 e1 p0 p1 go
    rw [if_neg c34]
    clear c34
    by_cases c35 : (pxJ w &&& (63 : Int32)) = (35 : Int32)
    · rw [if_pos c35]
      exact b_1779 P n6 e1 p0 p1 go
    rw [if_neg c35]
    clear c35
    by_cases c36 : (pxJ w &&& (63 : Int32)) = (36 : Int32)
    · rw [if_pos c36]
      exact b_1835 P n6 e1 p0 p1 e2 q0 q1 go
    rw [if_neg c36]
    clear c36
    by_cases c37 : (pxJ w &&& (63 : Int32)) = (37 : Int32)
    · rw [if_pos c37]
      exact b_1903 P n6 go
    rw [if_neg c37]
    clear c37
    exact b_1916 (R := (0, 0, α)) (P.same n6) go
end
