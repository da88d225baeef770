/-! the reference, line by line: any act -/
theorem pyAct_k {s : List Int} {p : Int} (ok : (pxAct s p).1 = true) (c : pxP s p = 107) : 97 ≤ pxP s (p + 1) ∧ pxP s (p + 1) ≤ 101 := by
  unfold pxAct at ok
  rw [c] at ok
  by_cases d : 97 ≤ pxP s (p + 1) ∧ pxP s (p + 1) ≤ 101
  · exact d
  · have ok' : (if 97 ≤ pxP s (p + 1) ∧ pxP s (p + 1) ≤ 101 then (true, p + 2) else (false, p + 1)).1 = true := ok
    rw [if_neg d] at ok'; cases ok'
theorem pyAct_f {s : List Int} {p : Int} (ok : (pxAct s p).1 = true) (c : pxP s p = 114 ∨ pxP s p = 119) : 48 ≤ pxP s (p + 1) ∧ pxP s (p + 1) ≤ 51 := by
  unfold pxAct at ok
  by_cases d : 48 ≤ pxP s (p + 1) ∧ pxP s (p + 1) ≤ 51
  · exact d
  · rcases c with c | c
    · rw [c] at ok
      have ok' : (if 48 ≤ pxP s (p + 1) ∧ pxP s (p + 1) ≤ 51 then (true, p + 2) else (false, p + 1)).1 = true := ok
      rw [if_neg d] at ok'; cases ok'
    · rw [c] at ok
      have ok' : (if 48 ≤ pxP s (p + 1) ∧ pxP s (p + 1) ≤ 51 then (true, p + 2) else (false, p + 1)).1 = true := ok
      rw [if_neg d] at ok'; cases ok'
theorem pyAct_n {s : List Int} {p : Int} (ok : (pxAct s p).1 = true) (c : pxP s p = 118 ∨ pxP s p = 62 ∨ pxP s p = 60) : (pxNum s (p + 1)).1 = true := by
  unfold pxAct at ok
  rcases c with c | c | c
  · rw [c] at ok; exact ok
  · rw [c] at ok; exact ok
  · rw [c] at ok; exact ok
/-- without a find the row is what it was -/
theorem pyChg_same {s r : List Int} {p : Int} (c : pxP s p = 115) (e : (pxChg s p r).2 = false) : (pxChg s p r).1 = r := by
  have rp : ∀ (m : Nat) (fi fr cp : Int) (on : Bool), (pxRp s r (pxFull s (p + 2)) (pxRepN s (p + 1)) (fun a bb o c => pxPw s r a bb o c (pxPatK s (p + 2)) 61 (pxPtn s (p + 1)).2) m fi fr on cp).2 = false → (pxRp s r (pxFull s (p + 2)) (pxRepN s (p + 1)) (fun a bb o c => pxPw s r a bb o c (pxPatK s (p + 2)) 61 (pxPtn s (p + 1)).2) m fi fr on cp).1 = pxSl r cp r.length := by
    intro m
    induction m with
    | zero => intro fi fr cp on _; rfl
    | succ m ih =>
      intro fi fr cp on hh
      unfold pxRp at hh ⊢
      cases z : pxFind s r (pxFull s (p + 2)) fr on with
      | none => rfl
      | some v =>
        rw [z] at hh
        dsimp only [Option.elim] at hh ⊢
        by_cases d : pxRepN s (p + 1) = 0
        · rw [if_pos d] at hh; cases hh
        · rw [if_neg d] at hh ⊢
          by_cases d2 : pxRepN s (p + 1) = fi
          · rw [if_pos d2] at hh; cases hh
          · rw [if_neg d2] at hh ⊢
            exact ih _ _ _ _ hh
  have ec : pxChg s p r = pxRp s r (pxFull s (p + 2)) (pxRepN s (p + 1)) (fun a bb o c => pxPw s r a bb o c (pxPatK s (p + 2)) 61 (pxPtn s (p + 1)).2) 31 1 0 false 0 := by unfold pxChg; rw [if_neg (by omega), if_pos c]
  rw [ec] at e ⊢
  rw [rp 31 1 0 0 false e, pxSl_all]
theorem pyOr_32 : pxOr [32] := ⟨by decide, fun c hc => by rw [List.mem_singleton.mp hc]; exact Or.inr (Or.inr rfl)⟩
section
variable {h : jw_H} {s : List Int} {T : pxTx} {c0 p q wh : Int} {W : pxWk} {F : pxFh} {S : pxSto} {rep r over : Bool}
set_option maxHeartbeats 8000000 in
theorem n_wa_97 (A : pyWs h s T c0 W F S rep) (g : W.2.2.2.2.1 = false) (b0 : 0 ≤ c0) (b1 : c0 ≤ 400) (e27 : pxM h 587 27 = wh) (w0 : 0 ≤ wh) (w3 : wh ≤ 3) (q0 : 0 ≤ q) (q1 : q < 60) (e614 : pxM h 614 q.toNat = pyB r) (ov : wh = 3 → over = !r) (p0 : 0 ≤ p) (ok : (pxAct s p).1 = true) (nz : pxP s p = 115 → pxP s (pxRep s (p + 1)).2 ≠ 48) (c : pxP s p = 97) :
    pxW (f_X12_workAct h 587 (pxJ q) (pxJ p)) fun v h' => pyV pyQwa h h' ∧ pyWR s T (c0 + 1) (pxBAct s p wh over T W F S rep) v h' := by
  have H := A.1
  have G := A.2.1
  have l60 := G.2.1.1
  have okr := A.2.2.2.2.2.2.1.2.1
  have R := A.2.2.2.2.2.2.1.1
  have IS := A.2.2.2.1.1
  have He := A.2.2.2.1.2.1
  have Fi := A.2.2.2.1.2.2.2
  have pl := (pxP_lt (s := s) (p := p) (by omega)).2
  have m := G.2.2 p p0 pl
  rw [← pxP_E p0 pl, c] at m
  have e : pxBAct s p wh over T W F S rep = (0, pxWd W (pxBDue W.2.2.2.2.2.2 (pxTold s 61 (p + 1))), F, S, rep) := by unfold pxBAct; rw [c]; rfl
  unfold f_X12_workAct
  rw [pyN_g21 H, px_bs, pyN_a599 H p0 (by omega), px_bs, m, if_pos (show pxJ 97 = (97 : Int32) from rfl)]
  try simp (maxSteps := 4000000) (disch := first | assumption | omega | (simp only [pyS_I]; assumption)) only [pxL0, pxL1, pxL2, pxL3, pxL4, pxL5, pxL6, pxL7, pxL8, pxL9, pxL10, pxL11, pxL12, pxL13, pxL14, pxL15, pxL16, pxL17, pxL18, pxL19, pxL20, pxL21, pxL22, pxL23, pxL24, pxL25, pxL26, pxL27, pxL28, pxL29, pxL30, pxL31, pxL32, pxL33, pxL34, pxL35, pxL36, pxL37, pxL38, pxL39, pxL40, pxL41, pxL42, pxL43, pxL44, pxL45, pxL46, pxL47, pxL48, pxL49, pxL51, pxL57, pxL58, pxL59, pxL60, pxL61, pxL62, pxL63, pxL64, pxL65, pxL66, pxL67, pxL68, pxL69, pxL70, pxL71, pxL72, pxL73, pxL74, pxL75, pxL76, pxL77, pxL78, pxL79, pxL80, pxL81, pxL82, pxL83, pxL84, pxL85, pxL86, pxL87, pxL88, pxL89, pxL90, pxL91, pxL92, pxL93, pxL94, pxL95, pxL96, pxL97, pxL98, pxL99, pxL100, pxL101, pxL102, pxL103, pxL104, pxL105, pxL106, pxL107, pxL108, pxL109, pxL110, pxL111, pxL112, pxL113, pxL114, pxL115, pxL116, pxL117, pxL118, pxL119, pxL120, pxL121, pxL122, pxL123, pxL124, pxL125, pxL126, pxL200, pxL240, pxL287, pxL388, pxL400, pxL429, pxL431, pxL440, pxL1240, pxL1600, pxL1681, pxL12028, pxL13849, pxL14880, pxL25173, pxL26908, pxL49600, pxL65535, pxL65536, ↓reduceIte, reduceCtorEq, pxJ_add, pxJ_sub, pxJ_mul, pxJ_neg, pxD_lt_t, pxD_lt_f, pxD_le_t, pxD_le_f, pxD_eq_t, pxD_eq_f, pxJ_lt, pxJ_le, pxJ_eq, pxJ_div, px_b2, px_bs, px_rb0, px_rb1, pxW_some, Option.some.injEq, pxM_eq, pxM_ne, pyN_gI, pyN_pI, pyN_rc, pyN_g1, pyN_a588, pyN_s588, pyN_g3, pyN_a589, pyN_s589, pyN_g4, pyN_a590, pyN_s590, pyN_g5, pyN_a591, pyN_s591, pyN_g6, pyN_a592, pyN_s592, pyN_g7, pyN_a593, pyN_s593, pyN_g8, pyN_a594, pyN_s594, pyN_g9, pyN_a595, pyN_s595, pyN_g10, pyN_a596, pyN_s596, pyN_g11, pyN_a597, pyN_s597, pyN_g19, pyN_a598, pyN_s598, pyN_g21, pyN_a599, pyN_s599, pyN_g31, pyN_a600, pyN_s600, pyN_g32, pyN_a601, pyN_s601, pyN_g38, pyN_a602, pyN_s602, pyN_g39, pyN_a603, pyN_s603, pyN_g46, pyN_a604, pyN_s604, pyN_g47, pyN_a605, pyN_s605, pyN_g48, pyN_a606, pyN_s606, pyN_g49, pyN_a607, pyN_s607, pyN_g55, pyN_a608, pyN_s608, pyN_g56, pyN_a609, pyN_s609, pyN_g57, pyN_a610, pyN_s610, pyN_g58, pyN_a611, pyN_s611, pyN_g59, pyN_a612, pyN_s612, pyN_g60, pyN_a613, pyN_s613, pyN_g74, pyN_a614, pyN_s614, pyN_g75, pyN_a615, pyN_s615, pyN_g76, pyN_a616, pyN_s616, pyN_g78, pyN_a617, pyN_s617, pyN_g79, pyN_a618, pyN_s618, G.1, m]
  exact pxW_b2 (n_w97 A b0 b1 ok c p0 pl) fun v h1 q => pxW_some.mpr (by rw [e]; exact q)
set_option maxHeartbeats 8000000 in
theorem n_wa_105 (A : pyWs h s T c0 W F S rep) (g : W.2.2.2.2.1 = false) (b0 : 0 ≤ c0) (b1 : c0 ≤ 400) (e27 : pxM h 587 27 = wh) (w0 : 0 ≤ wh) (w3 : wh ≤ 3) (q0 : 0 ≤ q) (q1 : q < 60) (e614 : pxM h 614 q.toNat = pyB r) (ov : wh = 3 → over = !r) (p0 : 0 ≤ p) (ok : (pxAct s p).1 = true) (nz : pxP s p = 115 → pxP s (pxRep s (p + 1)).2 ≠ 48) (c : pxP s p = 105) :
    pxW (f_X12_workAct h 587 (pxJ q) (pxJ p)) fun v h' => pyV pyQwa h h' ∧ pyWR s T (c0 + 1) (pxBAct s p wh over T W F S rep) v h' := by
  have H := A.1
  have G := A.2.1
  have l60 := G.2.1.1
  have okr := A.2.2.2.2.2.2.1.2.1
  have R := A.2.2.2.2.2.2.1.1
  have IS := A.2.2.2.1.1
  have He := A.2.2.2.1.2.1
  have Fi := A.2.2.2.1.2.2.2
  have pl := (pxP_lt (s := s) (p := p) (by omega)).2
  have m := G.2.2 p p0 pl
  rw [← pxP_E p0 pl, c] at m
  have e : pxBAct s p wh over T W F S rep = (pxBPut (pxTold s 61 (p + 1)) F).elim (4, W, F, S, rep) (fun z => (0, W, z, S, rep)) := by unfold pxBAct; rw [c]; rfl
  have nr := n_rowsAt H G (p := p + 1) (by omega) (by omega)
  unfold f_X12_workAct
  rw [pyN_g21 H, px_bs, pyN_a599 H p0 (by omega), px_bs, m, if_neg (show ¬ (pxJ 105 = (97 : Int32)) by decide), if_pos (show pxJ 105 = (105 : Int32) from rfl)]
  try simp (maxSteps := 4000000) (disch := first | assumption | omega | (simp only [pyS_I]; assumption)) only [pxL0, pxL1, pxL2, pxL3, pxL4, pxL5, pxL6, pxL7, pxL8, pxL9, pxL10, pxL11, pxL12, pxL13, pxL14, pxL15, pxL16, pxL17, pxL18, pxL19, pxL20, pxL21, pxL22, pxL23, pxL24, pxL25, pxL26, pxL27, pxL28, pxL29, pxL30, pxL31, pxL32, pxL33, pxL34, pxL35, pxL36, pxL37, pxL38, pxL39, pxL40, pxL41, pxL42, pxL43, pxL44, pxL45, pxL46, pxL47, pxL48, pxL49, pxL51, pxL57, pxL58, pxL59, pxL60, pxL61, pxL62, pxL63, pxL64, pxL65, pxL66, pxL67, pxL68, pxL69, pxL70, pxL71, pxL72, pxL73, pxL74, pxL75, pxL76, pxL77, pxL78, pxL79, pxL80, pxL81, pxL82, pxL83, pxL84, pxL85, pxL86, pxL87, pxL88, pxL89, pxL90, pxL91, pxL92, pxL93, pxL94, pxL95, pxL96, pxL97, pxL98, pxL99, pxL100, pxL101, pxL102, pxL103, pxL104, pxL105, pxL106, pxL107, pxL108, pxL109, pxL110, pxL111, pxL112, pxL113, pxL114, pxL115, pxL116, pxL117, pxL118, pxL119, pxL120, pxL121, pxL122, pxL123, pxL124, pxL125, pxL126, pxL200, pxL240, pxL287, pxL388, pxL400, pxL429, pxL431, pxL440, pxL1240, pxL1600, pxL1681, pxL12028, pxL13849, pxL14880, pxL25173, pxL26908, pxL49600, pxL65535, pxL65536, ↓reduceIte, reduceCtorEq, pxJ_add, pxJ_sub, pxJ_mul, pxJ_neg, pxD_lt_t, pxD_lt_f, pxD_le_t, pxD_le_f, pxD_eq_t, pxD_eq_f, pxJ_lt, pxJ_le, pxJ_eq, pxJ_div, px_b2, px_bs, px_rb0, px_rb1, pxW_some, Option.some.injEq, pxM_eq, pxM_ne, pyN_gI, pyN_pI, pyN_rc, pyN_g1, pyN_a588, pyN_s588, pyN_g3, pyN_a589, pyN_s589, pyN_g4, pyN_a590, pyN_s590, pyN_g5, pyN_a591, pyN_s591, pyN_g6, pyN_a592, pyN_s592, pyN_g7, pyN_a593, pyN_s593, pyN_g8, pyN_a594, pyN_s594, pyN_g9, pyN_a595, pyN_s595, pyN_g10, pyN_a596, pyN_s596, pyN_g11, pyN_a597, pyN_s597, pyN_g19, pyN_a598, pyN_s598, pyN_g21, pyN_a599, pyN_s599, pyN_g31, pyN_a600, pyN_s600, pyN_g32, pyN_a601, pyN_s601, pyN_g38, pyN_a602, pyN_s602, pyN_g39, pyN_a603, pyN_s603, pyN_g46, pyN_a604, pyN_s604, pyN_g47, pyN_a605, pyN_s605, pyN_g48, pyN_a606, pyN_s606, pyN_g49, pyN_a607, pyN_s607, pyN_g55, pyN_a608, pyN_s608, pyN_g56, pyN_a609, pyN_s609, pyN_g57, pyN_a610, pyN_s610, pyN_g58, pyN_a611, pyN_s611, pyN_g59, pyN_a612, pyN_s612, pyN_g60, pyN_a613, pyN_s613, pyN_g74, pyN_a614, pyN_s614, pyN_g75, pyN_a615, pyN_s615, pyN_g76, pyN_a616, pyN_s616, pyN_g78, pyN_a617, pyN_s617, pyN_g79, pyN_a618, pyN_s618, G.1, m, nr]
  exact pxW_b2 (n_w105 A b0 ok c p0 pl) fun v h1 q => pxW_some.mpr (by rw [e]; exact q)
set_option maxHeartbeats 8000000 in
theorem n_wa_99 (A : pyWs h s T c0 W F S rep) (g : W.2.2.2.2.1 = false) (b0 : 0 ≤ c0) (b1 : c0 ≤ 400) (e27 : pxM h 587 27 = wh) (w0 : 0 ≤ wh) (w3 : wh ≤ 3) (q0 : 0 ≤ q) (q1 : q < 60) (e614 : pxM h 614 q.toNat = pyB r) (ov : wh = 3 → over = !r) (p0 : 0 ≤ p) (ok : (pxAct s p).1 = true) (nz : pxP s p = 115 → pxP s (pxRep s (p + 1)).2 ≠ 48) (c : pxP s p = 99) :
    pxW (f_X12_workAct h 587 (pxJ q) (pxJ p)) fun v h' => pyV pyQwa h h' ∧ pyWR s T (c0 + 1) (pxBAct s p wh over T W F S rep) v h' := by
  have H := A.1
  have G := A.2.1
  have l60 := G.2.1.1
  have okr := A.2.2.2.2.2.2.1.2.1
  have R := A.2.2.2.2.2.2.1.1
  have IS := A.2.2.2.1.1
  have He := A.2.2.2.1.2.1
  have Fi := A.2.2.2.1.2.2.2
  have pl := (pxP_lt (s := s) (p := p) (by omega)).2
  have m := G.2.2 p p0 pl
  rw [← pxP_E p0 pl, c] at m
  have e : pxBAct s p wh over T W F S rep = (if wh = 3 ∧ over = false then (0, pxWg W, pxBDrop F W.1, S, rep) else (pxBPut (pxTold s 61 (p + 1)) (pxBDrop F W.1)).elim (4, W, F, S, rep) (fun z => (0, pxWg W, z, S, rep))) := by unfold pxBAct; rw [c]; rfl
  have nr := n_rowsAt H G (p := p + 1) (by omega) (by omega)
  have yes : (¬ (wh = 3 ∧ over = false)) → pxW (g_X12_workAct_b69 h 587 (pxJ (p + 1))) fun v h' => pyV pyQwa h h' ∧ pyWR s T (c0 + 1) (pxBAct s p wh over T W F S rep) v h' := by
    intro z
    rw [e, if_neg z]
    unfold g_X12_workAct_b69 g_X12_workAct_b74 f_X12_changeWork
    rw [pyN_rc H, px_bs, if_neg (show ¬ ((1 : Int32) = 0) by decide), pyN_rc H, px_bs, nr, px_b2]
    exact pxW_b2 (n_w99_b13 A g b0 ok c p0 pl (Or.inr ⟨rfl, rfl⟩)) fun v h1 q => pxW_some.mpr q
  unfold f_X12_workAct
  rw [pyN_g21 H, px_bs, pyN_a599 H p0 (by omega), px_bs, m, if_neg (show ¬ (pxJ 99 = (97 : Int32)) by decide), if_neg (show ¬ (pxJ 99 = (105 : Int32)) by decide), if_pos (show pxJ 99 = (99 : Int32) from rfl), pyN_gI H, px_bs, e27, show pxJ p + (1 : Int32) = pxJ (p + 1) from pxJ_add _ 1]
  by_cases k3 : wh = 3
  · have ov' := ov k3
    rw [if_pos (show pxJ wh = (3 : Int32) by rw [k3]; rfl), pyN_g74 H, px_bs, pyN_a614 H q0 q1, px_bs, e614]
    cases r with
    | false =>
      rw [if_pos (show pxJ (pyB false) = 0 from rfl)]
      exact yes (fun z => by rw [ov'] at z; cases z.2)
    | true =>
      rw [if_neg (show ¬ (pxJ (pyB true) = 0) by decide), e, if_pos (show wh = 3 ∧ over = false from ⟨k3, ov'⟩)]
      unfold g_X12_workAct_b74 f_X12_changeWork
      rw [pyN_rc H, px_bs, if_pos rfl, show (0 : Int32) = pxJ 0 from rfl]
      exact pxW_b2 (n_w99_b13 A g b0 ok c p0 pl (Or.inl ⟨rfl, rfl⟩)) fun v h1 q => pxW_some.mpr q
  · rw [if_neg (show ¬ (pxJ wh = (3 : Int32)) from py32 (a := wh) (b := 3) k3 (by omega) (by omega) (by omega) (by omega))]
    exact yes (fun z => k3 z.1)
set_option maxHeartbeats 8000000 in
theorem n_wa_100 (A : pyWs h s T c0 W F S rep) (g : W.2.2.2.2.1 = false) (b0 : 0 ≤ c0) (b1 : c0 ≤ 400) (e27 : pxM h 587 27 = wh) (w0 : 0 ≤ wh) (w3 : wh ≤ 3) (q0 : 0 ≤ q) (q1 : q < 60) (e614 : pxM h 614 q.toNat = pyB r) (ov : wh = 3 → over = !r) (p0 : 0 ≤ p) (ok : (pxAct s p).1 = true) (nz : pxP s p = 115 → pxP s (pxRep s (p + 1)).2 ≠ 48) (c : pxP s p = 100) :
    pxW (f_X12_workAct h 587 (pxJ q) (pxJ p)) fun v h' => pyV pyQwa h h' ∧ pyWR s T (c0 + 1) (pxBAct s p wh over T W F S rep) v h' := by
  have H := A.1
  have G := A.2.1
  have l60 := G.2.1.1
  have okr := A.2.2.2.2.2.2.1.2.1
  have R := A.2.2.2.2.2.2.1.1
  have IS := A.2.2.2.1.1
  have He := A.2.2.2.1.2.1
  have Fi := A.2.2.2.1.2.2.2
  have pl := (pxP_lt (s := s) (p := p) (by omega)).2
  have m := G.2.2 p p0 pl
  rw [← pxP_E p0 pl, c] at m
  have e : pxBAct s p wh over T W F S rep = (0, pxWg W, pxBDrop F W.1, S, rep) := by unfold pxBAct; rw [c]; rfl
  have P := n_w100 A g b0
  unfold f_X12_workAct
  rw [pyN_g21 H, px_bs, pyN_a599 H p0 (by omega), px_bs, m, if_neg (show ¬ (pxJ 100 = (97 : Int32)) by decide), if_neg (show ¬ (pxJ 100 = (105 : Int32)) by decide), if_neg (show ¬ (pxJ 100 = (99 : Int32)) by decide), if_pos (show pxJ 100 = (100 : Int32) from rfl), pyN_pB H 70 (0 : Int32) (Or.inl rfl), px_bs, e]
  exact pxW_some.mpr P
set_option maxHeartbeats 8000000 in
theorem n_wa_106 (A : pyWs h s T c0 W F S rep) (g : W.2.2.2.2.1 = false) (b0 : 0 ≤ c0) (b1 : c0 ≤ 400) (e27 : pxM h 587 27 = wh) (w0 : 0 ≤ wh) (w3 : wh ≤ 3) (q0 : 0 ≤ q) (q1 : q < 60) (e614 : pxM h 614 q.toNat = pyB r) (ov : wh = 3 → over = !r) (p0 : 0 ≤ p) (ok : (pxAct s p).1 = true) (nz : pxP s p = 115 → pxP s (pxRep s (p + 1)).2 ≠ 48) (c : pxP s p = 106) :
    pxW (f_X12_workAct h 587 (pxJ q) (pxJ p)) fun v h' => pyV pyQwa h h' ∧ pyWR s T (c0 + 1) (pxBAct s p wh over T W F S rep) v h' := by
  have H := A.1
  have G := A.2.1
  have l60 := G.2.1.1
  have okr := A.2.2.2.2.2.2.1.2.1
  have R := A.2.2.2.2.2.2.1.1
  have IS := A.2.2.2.1.1
  have He := A.2.2.2.1.2.1
  have Fi := A.2.2.2.1.2.2.2
  have pl := (pxP_lt (s := s) (p := p) (by omega)).2
  have m := G.2.2 p p0 pl
  rw [← pxP_E p0 pl, c] at m
  have e : pxBAct s p wh over T W F S rep = pxBJoin T W F S rep := by unfold pxBAct; rw [c]; rfl
  unfold f_X12_workAct
  rw [pyN_g21 H, px_bs, pyN_a599 H p0 (by omega), px_bs, m, if_neg (show ¬ (pxJ 106 = (97 : Int32)) by decide), if_neg (show ¬ (pxJ 106 = (105 : Int32)) by decide), if_neg (show ¬ (pxJ 106 = (99 : Int32)) by decide), if_neg (show ¬ (pxJ 106 = (100 : Int32)) by decide), if_pos (show pxJ 106 = (106 : Int32) from rfl)]
  try simp (maxSteps := 4000000) (disch := first | assumption | omega | (simp only [pyS_I]; assumption)) only [pxL0, pxL1, pxL2, pxL3, pxL4, pxL5, pxL6, pxL7, pxL8, pxL9, pxL10, pxL11, pxL12, pxL13, pxL14, pxL15, pxL16, pxL17, pxL18, pxL19, pxL20, pxL21, pxL22, pxL23, pxL24, pxL25, pxL26, pxL27, pxL28, pxL29, pxL30, pxL31, pxL32, pxL33, pxL34, pxL35, pxL36, pxL37, pxL38, pxL39, pxL40, pxL41, pxL42, pxL43, pxL44, pxL45, pxL46, pxL47, pxL48, pxL49, pxL51, pxL57, pxL58, pxL59, pxL60, pxL61, pxL62, pxL63, pxL64, pxL65, pxL66, pxL67, pxL68, pxL69, pxL70, pxL71, pxL72, pxL73, pxL74, pxL75, pxL76, pxL77, pxL78, pxL79, pxL80, pxL81, pxL82, pxL83, pxL84, pxL85, pxL86, pxL87, pxL88, pxL89, pxL90, pxL91, pxL92, pxL93, pxL94, pxL95, pxL96, pxL97, pxL98, pxL99, pxL100, pxL101, pxL102, pxL103, pxL104, pxL105, pxL106, pxL107, pxL108, pxL109, pxL110, pxL111, pxL112, pxL113, pxL114, pxL115, pxL116, pxL117, pxL118, pxL119, pxL120, pxL121, pxL122, pxL123, pxL124, pxL125, pxL126, pxL200, pxL240, pxL287, pxL388, pxL400, pxL429, pxL431, pxL440, pxL1240, pxL1600, pxL1681, pxL12028, pxL13849, pxL14880, pxL25173, pxL26908, pxL49600, pxL65535, pxL65536, ↓reduceIte, reduceCtorEq, pxJ_add, pxJ_sub, pxJ_mul, pxJ_neg, pxD_lt_t, pxD_lt_f, pxD_le_t, pxD_le_f, pxD_eq_t, pxD_eq_f, pxJ_lt, pxJ_le, pxJ_eq, pxJ_div, px_b2, px_bs, px_rb0, px_rb1, pxW_some, Option.some.injEq, pxM_eq, pxM_ne, pyN_gI, pyN_pI, pyN_rc, pyN_g1, pyN_a588, pyN_s588, pyN_g3, pyN_a589, pyN_s589, pyN_g4, pyN_a590, pyN_s590, pyN_g5, pyN_a591, pyN_s591, pyN_g6, pyN_a592, pyN_s592, pyN_g7, pyN_a593, pyN_s593, pyN_g8, pyN_a594, pyN_s594, pyN_g9, pyN_a595, pyN_s595, pyN_g10, pyN_a596, pyN_s596, pyN_g11, pyN_a597, pyN_s597, pyN_g19, pyN_a598, pyN_s598, pyN_g21, pyN_a599, pyN_s599, pyN_g31, pyN_a600, pyN_s600, pyN_g32, pyN_a601, pyN_s601, pyN_g38, pyN_a602, pyN_s602, pyN_g39, pyN_a603, pyN_s603, pyN_g46, pyN_a604, pyN_s604, pyN_g47, pyN_a605, pyN_s605, pyN_g48, pyN_a606, pyN_s606, pyN_g49, pyN_a607, pyN_s607, pyN_g55, pyN_a608, pyN_s608, pyN_g56, pyN_a609, pyN_s609, pyN_g57, pyN_a610, pyN_s610, pyN_g58, pyN_a611, pyN_s611, pyN_g59, pyN_a612, pyN_s612, pyN_g60, pyN_a613, pyN_s613, pyN_g74, pyN_a614, pyN_s614, pyN_g75, pyN_a615, pyN_s615, pyN_g76, pyN_a616, pyN_s616, pyN_g78, pyN_a617, pyN_s617, pyN_g79, pyN_a618, pyN_s618, G.1, m]
  exact pxW_b2 (n_joinNext A g b0) fun v h1 q => pxW_some.mpr (by rw [e]; exact q)
set_option maxHeartbeats 8000000 in
theorem n_wa_118 (A : pyWs h s T c0 W F S rep) (g : W.2.2.2.2.1 = false) (b0 : 0 ≤ c0) (b1 : c0 ≤ 400) (e27 : pxM h 587 27 = wh) (w0 : 0 ≤ wh) (w3 : wh ≤ 3) (q0 : 0 ≤ q) (q1 : q < 60) (e614 : pxM h 614 q.toNat = pyB r) (ov : wh = 3 → over = !r) (p0 : 0 ≤ p) (ok : (pxAct s p).1 = true) (nz : pxP s p = 115 → pxP s (pxRep s (p + 1)).2 ≠ 48) (c : pxP s p = 118) :
    pxW (f_X12_workAct h 587 (pxJ q) (pxJ p)) fun v h' => pyV pyQwa h h' ∧ pyWR s T (c0 + 1) (pxBAct s p wh over T W F S rep) v h' := by
  have H := A.1
  have G := A.2.1
  have l60 := G.2.1.1
  have okr := A.2.2.2.2.2.2.1.2.1
  have R := A.2.2.2.2.2.2.1.1
  have IS := A.2.2.2.1.1
  have He := A.2.2.2.1.2.1
  have Fi := A.2.2.2.1.2.2.2
  have pl := (pxP_lt (s := s) (p := p) (by omega)).2
  have m := G.2.2 p p0 pl
  rw [← pxP_E p0 pl, c] at m
  have e : pxBAct s p wh over T W F S rep = pxBPart (pxNumV s (p + 1)) W F S rep := by unfold pxBAct; rw [c]; rfl
  have nok := pyAct_n ok (Or.inl c)
  have vb := pxNumV_b nok
  have na := n_numberAt H G (p := p + 1) (by omega) nok
  unfold f_X12_workAct
  rw [pyN_g21 H, px_bs, pyN_a599 H p0 (by omega), px_bs, m, if_neg (show ¬ (pxJ 118 = (97 : Int32)) by decide), if_neg (show ¬ (pxJ 118 = (105 : Int32)) by decide), if_neg (show ¬ (pxJ 118 = (99 : Int32)) by decide), if_neg (show ¬ (pxJ 118 = (100 : Int32)) by decide), if_neg (show ¬ (pxJ 118 = (106 : Int32)) by decide), if_pos (show pxJ 118 = (118 : Int32) from rfl)]
  try simp (maxSteps := 4000000) (disch := first | assumption | omega | (simp only [pyS_I]; assumption)) only [pxL0, pxL1, pxL2, pxL3, pxL4, pxL5, pxL6, pxL7, pxL8, pxL9, pxL10, pxL11, pxL12, pxL13, pxL14, pxL15, pxL16, pxL17, pxL18, pxL19, pxL20, pxL21, pxL22, pxL23, pxL24, pxL25, pxL26, pxL27, pxL28, pxL29, pxL30, pxL31, pxL32, pxL33, pxL34, pxL35, pxL36, pxL37, pxL38, pxL39, pxL40, pxL41, pxL42, pxL43, pxL44, pxL45, pxL46, pxL47, pxL48, pxL49, pxL51, pxL57, pxL58, pxL59, pxL60, pxL61, pxL62, pxL63, pxL64, pxL65, pxL66, pxL67, pxL68, pxL69, pxL70, pxL71, pxL72, pxL73, pxL74, pxL75, pxL76, pxL77, pxL78, pxL79, pxL80, pxL81, pxL82, pxL83, pxL84, pxL85, pxL86, pxL87, pxL88, pxL89, pxL90, pxL91, pxL92, pxL93, pxL94, pxL95, pxL96, pxL97, pxL98, pxL99, pxL100, pxL101, pxL102, pxL103, pxL104, pxL105, pxL106, pxL107, pxL108, pxL109, pxL110, pxL111, pxL112, pxL113, pxL114, pxL115, pxL116, pxL117, pxL118, pxL119, pxL120, pxL121, pxL122, pxL123, pxL124, pxL125, pxL126, pxL200, pxL240, pxL287, pxL388, pxL400, pxL429, pxL431, pxL440, pxL1240, pxL1600, pxL1681, pxL12028, pxL13849, pxL14880, pxL25173, pxL26908, pxL49600, pxL65535, pxL65536, ↓reduceIte, reduceCtorEq, pxJ_add, pxJ_sub, pxJ_mul, pxJ_neg, pxD_lt_t, pxD_lt_f, pxD_le_t, pxD_le_f, pxD_eq_t, pxD_eq_f, pxJ_lt, pxJ_le, pxJ_eq, pxJ_div, px_b2, px_bs, px_rb0, px_rb1, pxW_some, Option.some.injEq, pxM_eq, pxM_ne, pyN_gI, pyN_pI, pyN_rc, pyN_g1, pyN_a588, pyN_s588, pyN_g3, pyN_a589, pyN_s589, pyN_g4, pyN_a590, pyN_s590, pyN_g5, pyN_a591, pyN_s591, pyN_g6, pyN_a592, pyN_s592, pyN_g7, pyN_a593, pyN_s593, pyN_g8, pyN_a594, pyN_s594, pyN_g9, pyN_a595, pyN_s595, pyN_g10, pyN_a596, pyN_s596, pyN_g11, pyN_a597, pyN_s597, pyN_g19, pyN_a598, pyN_s598, pyN_g21, pyN_a599, pyN_s599, pyN_g31, pyN_a600, pyN_s600, pyN_g32, pyN_a601, pyN_s601, pyN_g38, pyN_a602, pyN_s602, pyN_g39, pyN_a603, pyN_s603, pyN_g46, pyN_a604, pyN_s604, pyN_g47, pyN_a605, pyN_s605, pyN_g48, pyN_a606, pyN_s606, pyN_g49, pyN_a607, pyN_s607, pyN_g55, pyN_a608, pyN_s608, pyN_g56, pyN_a609, pyN_s609, pyN_g57, pyN_a610, pyN_s610, pyN_g58, pyN_a611, pyN_s611, pyN_g59, pyN_a612, pyN_s612, pyN_g60, pyN_a613, pyN_s613, pyN_g74, pyN_a614, pyN_s614, pyN_g75, pyN_a615, pyN_s615, pyN_g76, pyN_a616, pyN_s616, pyN_g78, pyN_a617, pyN_s617, pyN_g79, pyN_a618, pyN_s618, G.1, m, na]
  exact pxW_b2 (n_partWork A b0 b1 vb.1 vb.2) fun v h1 q => pxW_some.mpr (by rw [e]; exact q)
set_option maxHeartbeats 8000000 in
theorem n_wa_112 (A : pyWs h s T c0 W F S rep) (g : W.2.2.2.2.1 = false) (b0 : 0 ≤ c0) (b1 : c0 ≤ 400) (e27 : pxM h 587 27 = wh) (w0 : 0 ≤ wh) (w3 : wh ≤ 3) (q0 : 0 ≤ q) (q1 : q < 60) (e614 : pxM h 614 q.toNat = pyB r) (ov : wh = 3 → over = !r) (p0 : 0 ≤ p) (ok : (pxAct s p).1 = true) (nz : pxP s p = 115 → pxP s (pxRep s (p + 1)).2 ≠ 48) (c : pxP s p = 112) :
    pxW (f_X12_workAct h 587 (pxJ q) (pxJ p)) fun v h' => pyV pyQwa h h' ∧ pyWR s T (c0 + 1) (pxBAct s p wh over T W F S rep) v h' := by
  have H := A.1
  have G := A.2.1
  have l60 := G.2.1.1
  have okr := A.2.2.2.2.2.2.1.2.1
  have R := A.2.2.2.2.2.2.1.1
  have IS := A.2.2.2.1.1
  have He := A.2.2.2.1.2.1
  have Fi := A.2.2.2.1.2.2.2
  have pl := (pxP_lt (s := s) (p := p) (by omega)).2
  have m := G.2.2 p p0 pl
  rw [← pxP_E p0 pl, c] at m
  have e : pxBAct s p wh over T W F S rep = (if W.2.2.2.2.2.1.length ≤ 30 ∧ S.2.1.length < 100 then (0, W, F, (S.1, S.2.1 ++ [W.2.2.2.2.2.1], S.2.2), rep) else (4, W, F, S, rep)) := by unfold pxBAct pxBTell; rw [c]; rfl
  have w68 := A.2.2.2.2.2.2.1.2.2.2.2.2.2.2.2.1
  have P := n_tellWork (hn := false) (hr := true) A b0 (W.2.2.2.2.2.1) (by simp) (fun _ => okr)
  unfold f_X12_workAct
  rw [pyN_g21 H, px_bs, pyN_a599 H p0 (by omega), px_bs, m, if_neg (show ¬ (pxJ 112 = (97 : Int32)) by decide), if_neg (show ¬ (pxJ 112 = (105 : Int32)) by decide), if_neg (show ¬ (pxJ 112 = (99 : Int32)) by decide), if_neg (show ¬ (pxJ 112 = (100 : Int32)) by decide), if_neg (show ¬ (pxJ 112 = (106 : Int32)) by decide), if_neg (show ¬ (pxJ 112 = (118 : Int32)) by decide), if_pos (show pxJ 112 = (112 : Int32) from rfl)]
  unfold g_X12_workAct_b138 g_X12_workAct_b150 g_X12_workAct_b161
  try simp (maxSteps := 4000000) (disch := first | assumption | omega | (simp only [pyS_I]; assumption)) only [pxL0, pxL1, pxL2, pxL3, pxL4, pxL5, pxL6, pxL7, pxL8, pxL9, pxL10, pxL11, pxL12, pxL13, pxL14, pxL15, pxL16, pxL17, pxL18, pxL19, pxL20, pxL21, pxL22, pxL23, pxL24, pxL25, pxL26, pxL27, pxL28, pxL29, pxL30, pxL31, pxL32, pxL33, pxL34, pxL35, pxL36, pxL37, pxL38, pxL39, pxL40, pxL41, pxL42, pxL43, pxL44, pxL45, pxL46, pxL47, pxL48, pxL49, pxL51, pxL57, pxL58, pxL59, pxL60, pxL61, pxL62, pxL63, pxL64, pxL65, pxL66, pxL67, pxL68, pxL69, pxL70, pxL71, pxL72, pxL73, pxL74, pxL75, pxL76, pxL77, pxL78, pxL79, pxL80, pxL81, pxL82, pxL83, pxL84, pxL85, pxL86, pxL87, pxL88, pxL89, pxL90, pxL91, pxL92, pxL93, pxL94, pxL95, pxL96, pxL97, pxL98, pxL99, pxL100, pxL101, pxL102, pxL103, pxL104, pxL105, pxL106, pxL107, pxL108, pxL109, pxL110, pxL111, pxL112, pxL113, pxL114, pxL115, pxL116, pxL117, pxL118, pxL119, pxL120, pxL121, pxL122, pxL123, pxL124, pxL125, pxL126, pxL200, pxL240, pxL287, pxL388, pxL400, pxL429, pxL431, pxL440, pxL1240, pxL1600, pxL1681, pxL12028, pxL13849, pxL14880, pxL25173, pxL26908, pxL49600, pxL65535, pxL65536, ↓reduceIte, reduceCtorEq, pxJ_add, pxJ_sub, pxJ_mul, pxJ_neg, pxD_lt_t, pxD_lt_f, pxD_le_t, pxD_le_f, pxD_eq_t, pxD_eq_f, pxJ_lt, pxJ_le, pxJ_eq, pxJ_div, px_b2, px_bs, px_rb0, px_rb1, pxW_some, Option.some.injEq, pxM_eq, pxM_ne, pyN_gI, pyN_pI, pyN_rc, pyN_g1, pyN_a588, pyN_s588, pyN_g3, pyN_a589, pyN_s589, pyN_g4, pyN_a590, pyN_s590, pyN_g5, pyN_a591, pyN_s591, pyN_g6, pyN_a592, pyN_s592, pyN_g7, pyN_a593, pyN_s593, pyN_g8, pyN_a594, pyN_s594, pyN_g9, pyN_a595, pyN_s595, pyN_g10, pyN_a596, pyN_s596, pyN_g11, pyN_a597, pyN_s597, pyN_g19, pyN_a598, pyN_s598, pyN_g21, pyN_a599, pyN_s599, pyN_g31, pyN_a600, pyN_s600, pyN_g32, pyN_a601, pyN_s601, pyN_g38, pyN_a602, pyN_s602, pyN_g39, pyN_a603, pyN_s603, pyN_g46, pyN_a604, pyN_s604, pyN_g47, pyN_a605, pyN_s605, pyN_g48, pyN_a606, pyN_s606, pyN_g49, pyN_a607, pyN_s607, pyN_g55, pyN_a608, pyN_s608, pyN_g56, pyN_a609, pyN_s609, pyN_g57, pyN_a610, pyN_s610, pyN_g58, pyN_a611, pyN_s611, pyN_g59, pyN_a612, pyN_s612, pyN_g60, pyN_a613, pyN_s613, pyN_g74, pyN_a614, pyN_s614, pyN_g75, pyN_a615, pyN_s615, pyN_g76, pyN_a616, pyN_s616, pyN_g78, pyN_a617, pyN_s617, pyN_g79, pyN_a618, pyN_s618, G.1, m]
  refine pxW_b2 P fun v h1 q => pxW_some.mpr ?_
  rw [e]
  exact q
set_option maxHeartbeats 8000000 in
theorem n_wa_110 (A : pyWs h s T c0 W F S rep) (g : W.2.2.2.2.1 = false) (b0 : 0 ≤ c0) (b1 : c0 ≤ 400) (e27 : pxM h 587 27 = wh) (w0 : 0 ≤ wh) (w3 : wh ≤ 3) (q0 : 0 ≤ q) (q1 : q < 60) (e614 : pxM h 614 q.toNat = pyB r) (ov : wh = 3 → over = !r) (p0 : 0 ≤ p) (ok : (pxAct s p).1 = true) (nz : pxP s p = 115 → pxP s (pxRep s (p + 1)).2 ≠ 48) (c : pxP s p = 110) :
    pxW (f_X12_workAct h 587 (pxJ q) (pxJ p)) fun v h' => pyV pyQwa h h' ∧ pyWR s T (c0 + 1) (pxBAct s p wh over T W F S rep) v h' := by
  have H := A.1
  have G := A.2.1
  have l60 := G.2.1.1
  have okr := A.2.2.2.2.2.2.1.2.1
  have R := A.2.2.2.2.2.2.1.1
  have IS := A.2.2.2.1.1
  have He := A.2.2.2.1.2.1
  have Fi := A.2.2.2.1.2.2.2
  have pl := (pxP_lt (s := s) (p := p) (by omega)).2
  have m := G.2.2 p p0 pl
  rw [← pxP_E p0 pl, c] at m
  have e : pxBAct s p wh over T W F S rep = (if (pxDig W.2.1 ++ [32] ++ W.2.2.2.2.2.1).length ≤ 30 ∧ S.2.1.length < 100 then (0, W, F, (S.1, S.2.1 ++ [pxDig W.2.1 ++ [32] ++ W.2.2.2.2.2.1], S.2.2), rep) else (4, W, F, S, rep)) := by unfold pxBAct pxBTell; rw [c]; rfl
  have w68 := A.2.2.2.2.2.2.1.2.2.2.2.2.2.2.2.1
  have P := n_tellWork (hn := true) (hr := true) A b0 (pxDig W.2.1 ++ [32] ++ W.2.2.2.2.2.1) (by simp) (fun l => pxOr_app (pxOr_app (pxDig_or w68.1) pyOr_32 (by have := pyDig_le (n := W.2.1); simp only [List.length_singleton]; omega)) okr (by rw [List.length_append] at l; omega))
  unfold f_X12_workAct
  rw [pyN_g21 H, px_bs, pyN_a599 H p0 (by omega), px_bs, m, if_neg (show ¬ (pxJ 110 = (97 : Int32)) by decide), if_neg (show ¬ (pxJ 110 = (105 : Int32)) by decide), if_neg (show ¬ (pxJ 110 = (99 : Int32)) by decide), if_neg (show ¬ (pxJ 110 = (100 : Int32)) by decide), if_neg (show ¬ (pxJ 110 = (106 : Int32)) by decide), if_neg (show ¬ (pxJ 110 = (118 : Int32)) by decide), if_neg (show ¬ (pxJ 110 = (112 : Int32)) by decide), if_pos (show pxJ 110 = (110 : Int32) from rfl)]
  unfold g_X12_workAct_b138 g_X12_workAct_b150 g_X12_workAct_b161
  try simp (maxSteps := 4000000) (disch := first | assumption | omega | (simp only [pyS_I]; assumption)) only [pxL0, pxL1, pxL2, pxL3, pxL4, pxL5, pxL6, pxL7, pxL8, pxL9, pxL10, pxL11, pxL12, pxL13, pxL14, pxL15, pxL16, pxL17, pxL18, pxL19, pxL20, pxL21, pxL22, pxL23, pxL24, pxL25, pxL26, pxL27, pxL28, pxL29, pxL30, pxL31, pxL32, pxL33, pxL34, pxL35, pxL36, pxL37, pxL38, pxL39, pxL40, pxL41, pxL42, pxL43, pxL44, pxL45, pxL46, pxL47, pxL48, pxL49, pxL51, pxL57, pxL58, pxL59, pxL60, pxL61, pxL62, pxL63, pxL64, pxL65, pxL66, pxL67, pxL68, pxL69, pxL70, pxL71, pxL72, pxL73, pxL74, pxL75, pxL76, pxL77, pxL78, pxL79, pxL80, pxL81, pxL82, pxL83, pxL84, pxL85, pxL86, pxL87, pxL88, pxL89, pxL90, pxL91, pxL92, pxL93, pxL94, pxL95, pxL96, pxL97, pxL98, pxL99, pxL100, pxL101, pxL102, pxL103, pxL104, pxL105, pxL106, pxL107, pxL108, pxL109, pxL110, pxL111, pxL112, pxL113, pxL114, pxL115, pxL116, pxL117, pxL118, pxL119, pxL120, pxL121, pxL122, pxL123, pxL124, pxL125, pxL126, pxL200, pxL240, pxL287, pxL388, pxL400, pxL429, pxL431, pxL440, pxL1240, pxL1600, pxL1681, pxL12028, pxL13849, pxL14880, pxL25173, pxL26908, pxL49600, pxL65535, pxL65536, ↓reduceIte, reduceCtorEq, pxJ_add, pxJ_sub, pxJ_mul, pxJ_neg, pxD_lt_t, pxD_lt_f, pxD_le_t, pxD_le_f, pxD_eq_t, pxD_eq_f, pxJ_lt, pxJ_le, pxJ_eq, pxJ_div, px_b2, px_bs, px_rb0, px_rb1, pxW_some, Option.some.injEq, pxM_eq, pxM_ne, pyN_gI, pyN_pI, pyN_rc, pyN_g1, pyN_a588, pyN_s588, pyN_g3, pyN_a589, pyN_s589, pyN_g4, pyN_a590, pyN_s590, pyN_g5, pyN_a591, pyN_s591, pyN_g6, pyN_a592, pyN_s592, pyN_g7, pyN_a593, pyN_s593, pyN_g8, pyN_a594, pyN_s594, pyN_g9, pyN_a595, pyN_s595, pyN_g10, pyN_a596, pyN_s596, pyN_g11, pyN_a597, pyN_s597, pyN_g19, pyN_a598, pyN_s598, pyN_g21, pyN_a599, pyN_s599, pyN_g31, pyN_a600, pyN_s600, pyN_g32, pyN_a601, pyN_s601, pyN_g38, pyN_a602, pyN_s602, pyN_g39, pyN_a603, pyN_s603, pyN_g46, pyN_a604, pyN_s604, pyN_g47, pyN_a605, pyN_s605, pyN_g48, pyN_a606, pyN_s606, pyN_g49, pyN_a607, pyN_s607, pyN_g55, pyN_a608, pyN_s608, pyN_g56, pyN_a609, pyN_s609, pyN_g57, pyN_a610, pyN_s610, pyN_g58, pyN_a611, pyN_s611, pyN_g59, pyN_a612, pyN_s612, pyN_g60, pyN_a613, pyN_s613, pyN_g74, pyN_a614, pyN_s614, pyN_g75, pyN_a615, pyN_s615, pyN_g76, pyN_a616, pyN_s616, pyN_g78, pyN_a617, pyN_s617, pyN_g79, pyN_a618, pyN_s618, G.1, m]
  refine pxW_b2 P fun v h1 q => pxW_some.mpr ?_
  rw [e]
  exact q
set_option maxHeartbeats 8000000 in
theorem n_wa_61 (A : pyWs h s T c0 W F S rep) (g : W.2.2.2.2.1 = false) (b0 : 0 ≤ c0) (b1 : c0 ≤ 400) (e27 : pxM h 587 27 = wh) (w0 : 0 ≤ wh) (w3 : wh ≤ 3) (q0 : 0 ≤ q) (q1 : q < 60) (e614 : pxM h 614 q.toNat = pyB r) (ov : wh = 3 → over = !r) (p0 : 0 ≤ p) (ok : (pxAct s p).1 = true) (nz : pxP s p = 115 → pxP s (pxRep s (p + 1)).2 ≠ 48) (c : pxP s p = 61) :
    pxW (f_X12_workAct h 587 (pxJ q) (pxJ p)) fun v h' => pyV pyQwa h h' ∧ pyWR s T (c0 + 1) (pxBAct s p wh over T W F S rep) v h' := by
  have H := A.1
  have G := A.2.1
  have l60 := G.2.1.1
  have okr := A.2.2.2.2.2.2.1.2.1
  have R := A.2.2.2.2.2.2.1.1
  have IS := A.2.2.2.1.1
  have He := A.2.2.2.1.2.1
  have Fi := A.2.2.2.1.2.2.2
  have pl := (pxP_lt (s := s) (p := p) (by omega)).2
  have m := G.2.2 p p0 pl
  rw [← pxP_E p0 pl, c] at m
  have e : pxBAct s p wh over T W F S rep = (if S.2.1.length < 100 then (0, W, F, (S.1, S.2.1 ++ [pxDig W.2.1], S.2.2), rep) else (4, W, F, S, rep)) := by unfold pxBAct pxBTell; rw [c]; rfl
  have w68 := A.2.2.2.2.2.2.1.2.2.2.2.2.2.2.2.1
  have P := n_tellWork (hn := true) (hr := false) A b0 (pxDig W.2.1) (by simp) (fun _ => pxDig_or w68.1)
  unfold f_X12_workAct
  rw [pyN_g21 H, px_bs, pyN_a599 H p0 (by omega), px_bs, m, if_neg (show ¬ (pxJ 61 = (97 : Int32)) by decide), if_neg (show ¬ (pxJ 61 = (105 : Int32)) by decide), if_neg (show ¬ (pxJ 61 = (99 : Int32)) by decide), if_neg (show ¬ (pxJ 61 = (100 : Int32)) by decide), if_neg (show ¬ (pxJ 61 = (106 : Int32)) by decide), if_neg (show ¬ (pxJ 61 = (118 : Int32)) by decide), if_neg (show ¬ (pxJ 61 = (112 : Int32)) by decide), if_neg (show ¬ (pxJ 61 = (110 : Int32)) by decide), if_pos (show pxJ 61 = (61 : Int32) from rfl)]
  unfold g_X12_workAct_b138 g_X12_workAct_b150 g_X12_workAct_b161
  try simp (maxSteps := 4000000) (disch := first | assumption | omega | (simp only [pyS_I]; assumption)) only [pxL0, pxL1, pxL2, pxL3, pxL4, pxL5, pxL6, pxL7, pxL8, pxL9, pxL10, pxL11, pxL12, pxL13, pxL14, pxL15, pxL16, pxL17, pxL18, pxL19, pxL20, pxL21, pxL22, pxL23, pxL24, pxL25, pxL26, pxL27, pxL28, pxL29, pxL30, pxL31, pxL32, pxL33, pxL34, pxL35, pxL36, pxL37, pxL38, pxL39, pxL40, pxL41, pxL42, pxL43, pxL44, pxL45, pxL46, pxL47, pxL48, pxL49, pxL51, pxL57, pxL58, pxL59, pxL60, pxL61, pxL62, pxL63, pxL64, pxL65, pxL66, pxL67, pxL68, pxL69, pxL70, pxL71, pxL72, pxL73, pxL74, pxL75, pxL76, pxL77, pxL78, pxL79, pxL80, pxL81, pxL82, pxL83, pxL84, pxL85, pxL86, pxL87, pxL88, pxL89, pxL90, pxL91, pxL92, pxL93, pxL94, pxL95, pxL96, pxL97, pxL98, pxL99, pxL100, pxL101, pxL102, pxL103, pxL104, pxL105, pxL106, pxL107, pxL108, pxL109, pxL110, pxL111, pxL112, pxL113, pxL114, pxL115, pxL116, pxL117, pxL118, pxL119, pxL120, pxL121, pxL122, pxL123, pxL124, pxL125, pxL126, pxL200, pxL240, pxL287, pxL388, pxL400, pxL429, pxL431, pxL440, pxL1240, pxL1600, pxL1681, pxL12028, pxL13849, pxL14880, pxL25173, pxL26908, pxL49600, pxL65535, pxL65536, ↓reduceIte, reduceCtorEq, pxJ_add, pxJ_sub, pxJ_mul, pxJ_neg, pxD_lt_t, pxD_lt_f, pxD_le_t, pxD_le_f, pxD_eq_t, pxD_eq_f, pxJ_lt, pxJ_le, pxJ_eq, pxJ_div, px_b2, px_bs, px_rb0, px_rb1, pxW_some, Option.some.injEq, pxM_eq, pxM_ne, pyN_gI, pyN_pI, pyN_rc, pyN_g1, pyN_a588, pyN_s588, pyN_g3, pyN_a589, pyN_s589, pyN_g4, pyN_a590, pyN_s590, pyN_g5, pyN_a591, pyN_s591, pyN_g6, pyN_a592, pyN_s592, pyN_g7, pyN_a593, pyN_s593, pyN_g8, pyN_a594, pyN_s594, pyN_g9, pyN_a595, pyN_s595, pyN_g10, pyN_a596, pyN_s596, pyN_g11, pyN_a597, pyN_s597, pyN_g19, pyN_a598, pyN_s598, pyN_g21, pyN_a599, pyN_s599, pyN_g31, pyN_a600, pyN_s600, pyN_g32, pyN_a601, pyN_s601, pyN_g38, pyN_a602, pyN_s602, pyN_g39, pyN_a603, pyN_s603, pyN_g46, pyN_a604, pyN_s604, pyN_g47, pyN_a605, pyN_s605, pyN_g48, pyN_a606, pyN_s606, pyN_g49, pyN_a607, pyN_s607, pyN_g55, pyN_a608, pyN_s608, pyN_g56, pyN_a609, pyN_s609, pyN_g57, pyN_a610, pyN_s610, pyN_g58, pyN_a611, pyN_s611, pyN_g59, pyN_a612, pyN_s612, pyN_g60, pyN_a613, pyN_s613, pyN_g74, pyN_a614, pyN_s614, pyN_g75, pyN_a615, pyN_s615, pyN_g76, pyN_a616, pyN_s616, pyN_g78, pyN_a617, pyN_s617, pyN_g79, pyN_a618, pyN_s618, G.1, m]
  refine pxW_b2 P fun v h1 q => pxW_some.mpr ?_
  rw [e]
  have d := pyDig_le (n := W.2.1)
  by_cases z : S.2.1.length < 100
  · rw [if_pos z]
    rw [if_pos (show (pxDig W.2.1).length ≤ 30 ∧ S.2.1.length < 100 from ⟨by omega, z⟩)] at q
    exact q
  · rw [if_neg z]
    rw [if_neg (fun y => z y.2)] at q
    exact q
set_option maxHeartbeats 8000000 in
theorem n_wa_104 (A : pyWs h s T c0 W F S rep) (g : W.2.2.2.2.1 = false) (b0 : 0 ≤ c0) (b1 : c0 ≤ 400) (e27 : pxM h 587 27 = wh) (w0 : 0 ≤ wh) (w3 : wh ≤ 3) (q0 : 0 ≤ q) (q1 : q < 60) (e614 : pxM h 614 q.toNat = pyB r) (ov : wh = 3 → over = !r) (p0 : 0 ≤ p) (ok : (pxAct s p).1 = true) (nz : pxP s p = 115 → pxP s (pxRep s (p + 1)).2 ≠ 48) (c : pxP s p = 104) :
    pxW (f_X12_workAct h 587 (pxJ q) (pxJ p)) fun v h' => pyV pyQwa h h' ∧ pyWR s T (c0 + 1) (pxBAct s p wh over T W F S rep) v h' := by
  have H := A.1
  have G := A.2.1
  have l60 := G.2.1.1
  have okr := A.2.2.2.2.2.2.1.2.1
  have R := A.2.2.2.2.2.2.1.1
  have IS := A.2.2.2.1.1
  have He := A.2.2.2.1.2.1
  have Fi := A.2.2.2.1.2.2.2
  have pl := (pxP_lt (s := s) (p := p) (by omega)).2
  have m := G.2.2 p p0 pl
  rw [← pxP_E p0 pl, c] at m
  have e : pxBAct s p wh over T W F S rep = (0, W, F, ([W.2.2.2.2.2.1], S.2.1, S.2.2), rep) := by unfold pxBAct pxBTell; rw [c]; rfl
  have h40 := IS.1.1
  have P := n_holdWork (k := 0) A b0 (Or.inl rfl)
  unfold f_X12_workAct
  rw [pyN_g21 H, px_bs, pyN_a599 H p0 (by omega), px_bs, m, if_neg (show ¬ (pxJ 104 = (97 : Int32)) by decide), if_neg (show ¬ (pxJ 104 = (105 : Int32)) by decide), if_neg (show ¬ (pxJ 104 = (99 : Int32)) by decide), if_neg (show ¬ (pxJ 104 = (100 : Int32)) by decide), if_neg (show ¬ (pxJ 104 = (106 : Int32)) by decide), if_neg (show ¬ (pxJ 104 = (118 : Int32)) by decide), if_neg (show ¬ (pxJ 104 = (112 : Int32)) by decide), if_neg (show ¬ (pxJ 104 = (110 : Int32)) by decide), if_neg (show ¬ (pxJ 104 = (61 : Int32)) by decide), if_pos (show pxJ 104 = (104 : Int32) from rfl)]
  unfold g_X12_workAct_b177 g_X12_workAct_b192
  try simp (maxSteps := 4000000) (disch := first | assumption | omega | (simp only [pyS_I]; assumption)) only [pxL0, pxL1, pxL2, pxL3, pxL4, pxL5, pxL6, pxL7, pxL8, pxL9, pxL10, pxL11, pxL12, pxL13, pxL14, pxL15, pxL16, pxL17, pxL18, pxL19, pxL20, pxL21, pxL22, pxL23, pxL24, pxL25, pxL26, pxL27, pxL28, pxL29, pxL30, pxL31, pxL32, pxL33, pxL34, pxL35, pxL36, pxL37, pxL38, pxL39, pxL40, pxL41, pxL42, pxL43, pxL44, pxL45, pxL46, pxL47, pxL48, pxL49, pxL51, pxL57, pxL58, pxL59, pxL60, pxL61, pxL62, pxL63, pxL64, pxL65, pxL66, pxL67, pxL68, pxL69, pxL70, pxL71, pxL72, pxL73, pxL74, pxL75, pxL76, pxL77, pxL78, pxL79, pxL80, pxL81, pxL82, pxL83, pxL84, pxL85, pxL86, pxL87, pxL88, pxL89, pxL90, pxL91, pxL92, pxL93, pxL94, pxL95, pxL96, pxL97, pxL98, pxL99, pxL100, pxL101, pxL102, pxL103, pxL104, pxL105, pxL106, pxL107, pxL108, pxL109, pxL110, pxL111, pxL112, pxL113, pxL114, pxL115, pxL116, pxL117, pxL118, pxL119, pxL120, pxL121, pxL122, pxL123, pxL124, pxL125, pxL126, pxL200, pxL240, pxL287, pxL388, pxL400, pxL429, pxL431, pxL440, pxL1240, pxL1600, pxL1681, pxL12028, pxL13849, pxL14880, pxL25173, pxL26908, pxL49600, pxL65535, pxL65536, ↓reduceIte, reduceCtorEq, pxJ_add, pxJ_sub, pxJ_mul, pxJ_neg, pxD_lt_t, pxD_lt_f, pxD_le_t, pxD_le_f, pxD_eq_t, pxD_eq_f, pxJ_lt, pxJ_le, pxJ_eq, pxJ_div, px_b2, px_bs, px_rb0, px_rb1, pxW_some, Option.some.injEq, pxM_eq, pxM_ne, pyN_gI, pyN_pI, pyN_rc, pyN_g1, pyN_a588, pyN_s588, pyN_g3, pyN_a589, pyN_s589, pyN_g4, pyN_a590, pyN_s590, pyN_g5, pyN_a591, pyN_s591, pyN_g6, pyN_a592, pyN_s592, pyN_g7, pyN_a593, pyN_s593, pyN_g8, pyN_a594, pyN_s594, pyN_g9, pyN_a595, pyN_s595, pyN_g10, pyN_a596, pyN_s596, pyN_g11, pyN_a597, pyN_s597, pyN_g19, pyN_a598, pyN_s598, pyN_g21, pyN_a599, pyN_s599, pyN_g31, pyN_a600, pyN_s600, pyN_g32, pyN_a601, pyN_s601, pyN_g38, pyN_a602, pyN_s602, pyN_g39, pyN_a603, pyN_s603, pyN_g46, pyN_a604, pyN_s604, pyN_g47, pyN_a605, pyN_s605, pyN_g48, pyN_a606, pyN_s606, pyN_g49, pyN_a607, pyN_s607, pyN_g55, pyN_a608, pyN_s608, pyN_g56, pyN_a609, pyN_s609, pyN_g57, pyN_a610, pyN_s610, pyN_g58, pyN_a611, pyN_s611, pyN_g59, pyN_a612, pyN_s612, pyN_g60, pyN_a613, pyN_s613, pyN_g74, pyN_a614, pyN_s614, pyN_g75, pyN_a615, pyN_s615, pyN_g76, pyN_a616, pyN_s616, pyN_g78, pyN_a617, pyN_s617, pyN_g79, pyN_a618, pyN_s618, G.1, m, He.1]
  refine pxW_b2 P fun v h1 q => pxW_some.mpr ?_
  rw [e]
  exact q
set_option maxHeartbeats 8000000 in
theorem n_wa_72 (A : pyWs h s T c0 W F S rep) (g : W.2.2.2.2.1 = false) (b0 : 0 ≤ c0) (b1 : c0 ≤ 400) (e27 : pxM h 587 27 = wh) (w0 : 0 ≤ wh) (w3 : wh ≤ 3) (q0 : 0 ≤ q) (q1 : q < 60) (e614 : pxM h 614 q.toNat = pyB r) (ov : wh = 3 → over = !r) (p0 : 0 ≤ p) (ok : (pxAct s p).1 = true) (nz : pxP s p = 115 → pxP s (pxRep s (p + 1)).2 ≠ 48) (c : pxP s p = 72) :
    pxW (f_X12_workAct h 587 (pxJ q) (pxJ p)) fun v h' => pyV pyQwa h h' ∧ pyWR s T (c0 + 1) (pxBAct s p wh over T W F S rep) v h' := by
  have H := A.1
  have G := A.2.1
  have l60 := G.2.1.1
  have okr := A.2.2.2.2.2.2.1.2.1
  have R := A.2.2.2.2.2.2.1.1
  have IS := A.2.2.2.1.1
  have He := A.2.2.2.1.2.1
  have Fi := A.2.2.2.1.2.2.2
  have pl := (pxP_lt (s := s) (p := p) (by omega)).2
  have m := G.2.2 p p0 pl
  rw [← pxP_E p0 pl, c] at m
  have e : pxBAct s p wh over T W F S rep = (if S.1.length < 40 then (0, W, F, (S.1 ++ [W.2.2.2.2.2.1], S.2.1, S.2.2), rep) else (4, W, F, S, rep)) := by unfold pxBAct pxBTell; rw [c]; rfl
  have h40 := IS.1.1
  have P := n_holdWork (k := (S.1.length : Int)) A b0 (Or.inr rfl)
  unfold f_X12_workAct
  rw [pyN_g21 H, px_bs, pyN_a599 H p0 (by omega), px_bs, m, if_neg (show ¬ (pxJ 72 = (97 : Int32)) by decide), if_neg (show ¬ (pxJ 72 = (105 : Int32)) by decide), if_neg (show ¬ (pxJ 72 = (99 : Int32)) by decide), if_neg (show ¬ (pxJ 72 = (100 : Int32)) by decide), if_neg (show ¬ (pxJ 72 = (106 : Int32)) by decide), if_neg (show ¬ (pxJ 72 = (118 : Int32)) by decide), if_neg (show ¬ (pxJ 72 = (112 : Int32)) by decide), if_neg (show ¬ (pxJ 72 = (110 : Int32)) by decide), if_neg (show ¬ (pxJ 72 = (61 : Int32)) by decide), if_neg (show ¬ (pxJ 72 = (104 : Int32)) by decide), if_pos (show pxJ 72 = (72 : Int32) from rfl)]
  unfold g_X12_workAct_b177 g_X12_workAct_b192
  try simp (maxSteps := 4000000) (disch := first | assumption | omega | (simp only [pyS_I]; assumption)) only [pxL0, pxL1, pxL2, pxL3, pxL4, pxL5, pxL6, pxL7, pxL8, pxL9, pxL10, pxL11, pxL12, pxL13, pxL14, pxL15, pxL16, pxL17, pxL18, pxL19, pxL20, pxL21, pxL22, pxL23, pxL24, pxL25, pxL26, pxL27, pxL28, pxL29, pxL30, pxL31, pxL32, pxL33, pxL34, pxL35, pxL36, pxL37, pxL38, pxL39, pxL40, pxL41, pxL42, pxL43, pxL44, pxL45, pxL46, pxL47, pxL48, pxL49, pxL51, pxL57, pxL58, pxL59, pxL60, pxL61, pxL62, pxL63, pxL64, pxL65, pxL66, pxL67, pxL68, pxL69, pxL70, pxL71, pxL72, pxL73, pxL74, pxL75, pxL76, pxL77, pxL78, pxL79, pxL80, pxL81, pxL82, pxL83, pxL84, pxL85, pxL86, pxL87, pxL88, pxL89, pxL90, pxL91, pxL92, pxL93, pxL94, pxL95, pxL96, pxL97, pxL98, pxL99, pxL100, pxL101, pxL102, pxL103, pxL104, pxL105, pxL106, pxL107, pxL108, pxL109, pxL110, pxL111, pxL112, pxL113, pxL114, pxL115, pxL116, pxL117, pxL118, pxL119, pxL120, pxL121, pxL122, pxL123, pxL124, pxL125, pxL126, pxL200, pxL240, pxL287, pxL388, pxL400, pxL429, pxL431, pxL440, pxL1240, pxL1600, pxL1681, pxL12028, pxL13849, pxL14880, pxL25173, pxL26908, pxL49600, pxL65535, pxL65536, ↓reduceIte, reduceCtorEq, pxJ_add, pxJ_sub, pxJ_mul, pxJ_neg, pxD_lt_t, pxD_lt_f, pxD_le_t, pxD_le_f, pxD_eq_t, pxD_eq_f, pxJ_lt, pxJ_le, pxJ_eq, pxJ_div, px_b2, px_bs, px_rb0, px_rb1, pxW_some, Option.some.injEq, pxM_eq, pxM_ne, pyN_gI, pyN_pI, pyN_rc, pyN_g1, pyN_a588, pyN_s588, pyN_g3, pyN_a589, pyN_s589, pyN_g4, pyN_a590, pyN_s590, pyN_g5, pyN_a591, pyN_s591, pyN_g6, pyN_a592, pyN_s592, pyN_g7, pyN_a593, pyN_s593, pyN_g8, pyN_a594, pyN_s594, pyN_g9, pyN_a595, pyN_s595, pyN_g10, pyN_a596, pyN_s596, pyN_g11, pyN_a597, pyN_s597, pyN_g19, pyN_a598, pyN_s598, pyN_g21, pyN_a599, pyN_s599, pyN_g31, pyN_a600, pyN_s600, pyN_g32, pyN_a601, pyN_s601, pyN_g38, pyN_a602, pyN_s602, pyN_g39, pyN_a603, pyN_s603, pyN_g46, pyN_a604, pyN_s604, pyN_g47, pyN_a605, pyN_s605, pyN_g48, pyN_a606, pyN_s606, pyN_g49, pyN_a607, pyN_s607, pyN_g55, pyN_a608, pyN_s608, pyN_g56, pyN_a609, pyN_s609, pyN_g57, pyN_a610, pyN_s610, pyN_g58, pyN_a611, pyN_s611, pyN_g59, pyN_a612, pyN_s612, pyN_g60, pyN_a613, pyN_s613, pyN_g74, pyN_a614, pyN_s614, pyN_g75, pyN_a615, pyN_s615, pyN_g76, pyN_a616, pyN_s616, pyN_g78, pyN_a617, pyN_s617, pyN_g79, pyN_a618, pyN_s618, G.1, m, He.1]
  refine pxW_b2 P fun v h1 q => pxW_some.mpr ?_
  rw [e]
  rw [show ((S.1.length : Int)).toNat = S.1.length by omega, List.take_length] at q
  by_cases z : S.1.length < 40
  · rw [if_pos z]
    rw [if_pos (show (S.1.length : Int) < 40 by omega)] at q
    exact q
  · rw [if_neg z]
    rw [if_neg (show ¬ ((S.1.length : Int) < 40) by omega)] at q
    exact q
set_option maxHeartbeats 8000000 in
theorem n_wa_117 (A : pyWs h s T c0 W F S rep) (g : W.2.2.2.2.1 = false) (b0 : 0 ≤ c0) (b1 : c0 ≤ 400) (e27 : pxM h 587 27 = wh) (w0 : 0 ≤ wh) (w3 : wh ≤ 3) (q0 : 0 ≤ q) (q1 : q < 60) (e614 : pxM h 614 q.toNat = pyB r) (ov : wh = 3 → over = !r) (p0 : 0 ≤ p) (ok : (pxAct s p).1 = true) (nz : pxP s p = 115 → pxP s (pxRep s (p + 1)).2 ≠ 48) (c : pxP s p = 117) :
    pxW (f_X12_workAct h 587 (pxJ q) (pxJ p)) fun v h' => pyV pyQwa h h' ∧ pyWR s T (c0 + 1) (pxBAct s p wh over T W F S rep) v h' := by
  have H := A.1
  have G := A.2.1
  have l60 := G.2.1.1
  have okr := A.2.2.2.2.2.2.1.2.1
  have R := A.2.2.2.2.2.2.1.1
  have IS := A.2.2.2.1.1
  have He := A.2.2.2.1.2.1
  have Fi := A.2.2.2.1.2.2.2
  have pl := (pxP_lt (s := s) (p := p) (by omega)).2
  have m := G.2.2 p p0 pl
  rw [← pxP_E p0 pl, c] at m
  have e : pxBAct s p wh over T W F S rep = (if S.1 = [] then (5, W, F, S, rep) else (0, pxWd W (pxBDue W.2.2.2.2.2.2 S.1), F, S, rep)) := by unfold pxBAct; rw [c]; rfl
  have h40 := IS.1.1
  unfold f_X12_workAct
  rw [pyN_g21 H, px_bs, pyN_a599 H p0 (by omega), px_bs, m, if_neg (show ¬ (pxJ 117 = (97 : Int32)) by decide), if_neg (show ¬ (pxJ 117 = (105 : Int32)) by decide), if_neg (show ¬ (pxJ 117 = (99 : Int32)) by decide), if_neg (show ¬ (pxJ 117 = (100 : Int32)) by decide), if_neg (show ¬ (pxJ 117 = (106 : Int32)) by decide), if_neg (show ¬ (pxJ 117 = (118 : Int32)) by decide), if_neg (show ¬ (pxJ 117 = (112 : Int32)) by decide), if_neg (show ¬ (pxJ 117 = (110 : Int32)) by decide), if_neg (show ¬ (pxJ 117 = (61 : Int32)) by decide), if_neg (show ¬ (pxJ 117 = (104 : Int32)) by decide), if_neg (show ¬ (pxJ 117 = (72 : Int32)) by decide), if_pos (show pxJ 117 = (117 : Int32) from rfl)]
  unfold g_X12_workAct_b223
  try simp (maxSteps := 4000000) (disch := first | assumption | omega | (simp only [pyS_I]; assumption)) only [pxL0, pxL1, pxL2, pxL3, pxL4, pxL5, pxL6, pxL7, pxL8, pxL9, pxL10, pxL11, pxL12, pxL13, pxL14, pxL15, pxL16, pxL17, pxL18, pxL19, pxL20, pxL21, pxL22, pxL23, pxL24, pxL25, pxL26, pxL27, pxL28, pxL29, pxL30, pxL31, pxL32, pxL33, pxL34, pxL35, pxL36, pxL37, pxL38, pxL39, pxL40, pxL41, pxL42, pxL43, pxL44, pxL45, pxL46, pxL47, pxL48, pxL49, pxL51, pxL57, pxL58, pxL59, pxL60, pxL61, pxL62, pxL63, pxL64, pxL65, pxL66, pxL67, pxL68, pxL69, pxL70, pxL71, pxL72, pxL73, pxL74, pxL75, pxL76, pxL77, pxL78, pxL79, pxL80, pxL81, pxL82, pxL83, pxL84, pxL85, pxL86, pxL87, pxL88, pxL89, pxL90, pxL91, pxL92, pxL93, pxL94, pxL95, pxL96, pxL97, pxL98, pxL99, pxL100, pxL101, pxL102, pxL103, pxL104, pxL105, pxL106, pxL107, pxL108, pxL109, pxL110, pxL111, pxL112, pxL113, pxL114, pxL115, pxL116, pxL117, pxL118, pxL119, pxL120, pxL121, pxL122, pxL123, pxL124, pxL125, pxL126, pxL200, pxL240, pxL287, pxL388, pxL400, pxL429, pxL431, pxL440, pxL1240, pxL1600, pxL1681, pxL12028, pxL13849, pxL14880, pxL25173, pxL26908, pxL49600, pxL65535, pxL65536, ↓reduceIte, reduceCtorEq, pxJ_add, pxJ_sub, pxJ_mul, pxJ_neg, pxD_lt_t, pxD_lt_f, pxD_le_t, pxD_le_f, pxD_eq_t, pxD_eq_f, pxJ_lt, pxJ_le, pxJ_eq, pxJ_div, px_b2, px_bs, px_rb0, px_rb1, pxW_some, Option.some.injEq, pxM_eq, pxM_ne, pyN_gI, pyN_pI, pyN_rc, pyN_g1, pyN_a588, pyN_s588, pyN_g3, pyN_a589, pyN_s589, pyN_g4, pyN_a590, pyN_s590, pyN_g5, pyN_a591, pyN_s591, pyN_g6, pyN_a592, pyN_s592, pyN_g7, pyN_a593, pyN_s593, pyN_g8, pyN_a594, pyN_s594, pyN_g9, pyN_a595, pyN_s595, pyN_g10, pyN_a596, pyN_s596, pyN_g11, pyN_a597, pyN_s597, pyN_g19, pyN_a598, pyN_s598, pyN_g21, pyN_a599, pyN_s599, pyN_g31, pyN_a600, pyN_s600, pyN_g32, pyN_a601, pyN_s601, pyN_g38, pyN_a602, pyN_s602, pyN_g39, pyN_a603, pyN_s603, pyN_g46, pyN_a604, pyN_s604, pyN_g47, pyN_a605, pyN_s605, pyN_g48, pyN_a606, pyN_s606, pyN_g49, pyN_a607, pyN_s607, pyN_g55, pyN_a608, pyN_s608, pyN_g56, pyN_a609, pyN_s609, pyN_g57, pyN_a610, pyN_s610, pyN_g58, pyN_a611, pyN_s611, pyN_g59, pyN_a612, pyN_s612, pyN_g60, pyN_a613, pyN_s613, pyN_g74, pyN_a614, pyN_s614, pyN_g75, pyN_a615, pyN_s615, pyN_g76, pyN_a616, pyN_s616, pyN_g78, pyN_a617, pyN_s617, pyN_g79, pyN_a618, pyN_s618, G.1, m, He.1]
  by_cases z : S.1 = []
  · rw [if_pos (show (S.1.length : Int) = 0 by rw [z]; rfl), e, if_pos z]
    exact pxW_some.mpr ⟨pyV.rfl, pyWR_5⟩
  · have zl : S.1.length ≠ 0 := fun y => z (List.length_eq_zero_iff.mp y)
    rw [if_neg (show ¬ ((S.1.length : Int) = 0) by omega), e, if_neg z]
    exact pxW_b2 (n_dueRows A b0 b1 IS.1.2 h40 He.2 (by omega) (by omega)) fun v h1 q => pxW_some.mpr q
set_option maxHeartbeats 8000000 in
theorem n_wa_101 (A : pyWs h s T c0 W F S rep) (g : W.2.2.2.2.1 = false) (b0 : 0 ≤ c0) (b1 : c0 ≤ 400) (e27 : pxM h 587 27 = wh) (w0 : 0 ≤ wh) (w3 : wh ≤ 3) (q0 : 0 ≤ q) (q1 : q < 60) (e614 : pxM h 614 q.toNat = pyB r) (ov : wh = 3 → over = !r) (p0 : 0 ≤ p) (ok : (pxAct s p).1 = true) (nz : pxP s p = 115 → pxP s (pxRep s (p + 1)).2 ≠ 48) (c : pxP s p = 101) :
    pxW (f_X12_workAct h 587 (pxJ q) (pxJ p)) fun v h' => pyV pyQwa h h' ∧ pyWR s T (c0 + 1) (pxBAct s p wh over T W F S rep) v h' := by
  have H := A.1
  have G := A.2.1
  have l60 := G.2.1.1
  have okr := A.2.2.2.2.2.2.1.2.1
  have R := A.2.2.2.2.2.2.1.1
  have IS := A.2.2.2.1.1
  have He := A.2.2.2.1.2.1
  have Fi := A.2.2.2.1.2.2.2
  have pl := (pxP_lt (s := s) (p := p) (by omega)).2
  have m := G.2.2 p p0 pl
  rw [← pxP_E p0 pl, c] at m
  have e : pxBAct s p wh over T W F S rep = (if S.1.length = 1 then (0, pxWr W (pxRw S.1 1), F, ([W.2.2.2.2.2.1], S.2.1, S.2.2), rep) else (5, W, F, S, rep)) := by unfold pxBAct; rw [c]; rfl
  unfold f_X12_workAct
  rw [pyN_g21 H, px_bs, pyN_a599 H p0 (by omega), px_bs, m, if_neg (show ¬ (pxJ 101 = (97 : Int32)) by decide), if_neg (show ¬ (pxJ 101 = (105 : Int32)) by decide), if_neg (show ¬ (pxJ 101 = (99 : Int32)) by decide), if_neg (show ¬ (pxJ 101 = (100 : Int32)) by decide), if_neg (show ¬ (pxJ 101 = (106 : Int32)) by decide), if_neg (show ¬ (pxJ 101 = (118 : Int32)) by decide), if_neg (show ¬ (pxJ 101 = (112 : Int32)) by decide), if_neg (show ¬ (pxJ 101 = (110 : Int32)) by decide), if_neg (show ¬ (pxJ 101 = (61 : Int32)) by decide), if_neg (show ¬ (pxJ 101 = (104 : Int32)) by decide), if_neg (show ¬ (pxJ 101 = (72 : Int32)) by decide), if_neg (show ¬ (pxJ 101 = (117 : Int32)) by decide), if_pos (show pxJ 101 = (101 : Int32) from rfl)]
  try simp (maxSteps := 4000000) (disch := first | assumption | omega | (simp only [pyS_I]; assumption)) only [pxL0, pxL1, pxL2, pxL3, pxL4, pxL5, pxL6, pxL7, pxL8, pxL9, pxL10, pxL11, pxL12, pxL13, pxL14, pxL15, pxL16, pxL17, pxL18, pxL19, pxL20, pxL21, pxL22, pxL23, pxL24, pxL25, pxL26, pxL27, pxL28, pxL29, pxL30, pxL31, pxL32, pxL33, pxL34, pxL35, pxL36, pxL37, pxL38, pxL39, pxL40, pxL41, pxL42, pxL43, pxL44, pxL45, pxL46, pxL47, pxL48, pxL49, pxL51, pxL57, pxL58, pxL59, pxL60, pxL61, pxL62, pxL63, pxL64, pxL65, pxL66, pxL67, pxL68, pxL69, pxL70, pxL71, pxL72, pxL73, pxL74, pxL75, pxL76, pxL77, pxL78, pxL79, pxL80, pxL81, pxL82, pxL83, pxL84, pxL85, pxL86, pxL87, pxL88, pxL89, pxL90, pxL91, pxL92, pxL93, pxL94, pxL95, pxL96, pxL97, pxL98, pxL99, pxL100, pxL101, pxL102, pxL103, pxL104, pxL105, pxL106, pxL107, pxL108, pxL109, pxL110, pxL111, pxL112, pxL113, pxL114, pxL115, pxL116, pxL117, pxL118, pxL119, pxL120, pxL121, pxL122, pxL123, pxL124, pxL125, pxL126, pxL200, pxL240, pxL287, pxL388, pxL400, pxL429, pxL431, pxL440, pxL1240, pxL1600, pxL1681, pxL12028, pxL13849, pxL14880, pxL25173, pxL26908, pxL49600, pxL65535, pxL65536, ↓reduceIte, reduceCtorEq, pxJ_add, pxJ_sub, pxJ_mul, pxJ_neg, pxD_lt_t, pxD_lt_f, pxD_le_t, pxD_le_f, pxD_eq_t, pxD_eq_f, pxJ_lt, pxJ_le, pxJ_eq, pxJ_div, px_b2, px_bs, px_rb0, px_rb1, pxW_some, Option.some.injEq, pxM_eq, pxM_ne, pyN_gI, pyN_pI, pyN_rc, pyN_g1, pyN_a588, pyN_s588, pyN_g3, pyN_a589, pyN_s589, pyN_g4, pyN_a590, pyN_s590, pyN_g5, pyN_a591, pyN_s591, pyN_g6, pyN_a592, pyN_s592, pyN_g7, pyN_a593, pyN_s593, pyN_g8, pyN_a594, pyN_s594, pyN_g9, pyN_a595, pyN_s595, pyN_g10, pyN_a596, pyN_s596, pyN_g11, pyN_a597, pyN_s597, pyN_g19, pyN_a598, pyN_s598, pyN_g21, pyN_a599, pyN_s599, pyN_g31, pyN_a600, pyN_s600, pyN_g32, pyN_a601, pyN_s601, pyN_g38, pyN_a602, pyN_s602, pyN_g39, pyN_a603, pyN_s603, pyN_g46, pyN_a604, pyN_s604, pyN_g47, pyN_a605, pyN_s605, pyN_g48, pyN_a606, pyN_s606, pyN_g49, pyN_a607, pyN_s607, pyN_g55, pyN_a608, pyN_s608, pyN_g56, pyN_a609, pyN_s609, pyN_g57, pyN_a610, pyN_s610, pyN_g58, pyN_a611, pyN_s611, pyN_g59, pyN_a612, pyN_s612, pyN_g60, pyN_a613, pyN_s613, pyN_g74, pyN_a614, pyN_s614, pyN_g75, pyN_a615, pyN_s615, pyN_g76, pyN_a616, pyN_s616, pyN_g78, pyN_a617, pyN_s617, pyN_g79, pyN_a618, pyN_s618, G.1, m]
  exact pxW_b2 (n_exchangeWork A b0) fun v h1 q => pxW_some.mpr (by rw [e]; exact q)
set_option maxHeartbeats 8000000 in
theorem n_wa_62 (A : pyWs h s T c0 W F S rep) (g : W.2.2.2.2.1 = false) (b0 : 0 ≤ c0) (b1 : c0 ≤ 400) (e27 : pxM h 587 27 = wh) (w0 : 0 ≤ wh) (w3 : wh ≤ 3) (q0 : 0 ≤ q) (q1 : q < 60) (e614 : pxM h 614 q.toNat = pyB r) (ov : wh = 3 → over = !r) (p0 : 0 ≤ p) (ok : (pxAct s p).1 = true) (nz : pxP s p = 115 → pxP s (pxRep s (p + 1)).2 ≠ 48) (c : pxP s p = 62) :
    pxW (f_X12_workAct h 587 (pxJ q) (pxJ p)) fun v h' => pyV pyQwa h h' ∧ pyWR s T (c0 + 1) (pxBAct s p wh over T W F S rep) v h' := by
  have H := A.1
  have G := A.2.1
  have l60 := G.2.1.1
  have okr := A.2.2.2.2.2.2.1.2.1
  have R := A.2.2.2.2.2.2.1.1
  have IS := A.2.2.2.1.1
  have He := A.2.2.2.1.2.1
  have Fi := A.2.2.2.1.2.2.2
  have pl := (pxP_lt (s := s) (p := p) (by omega)).2
  have m := G.2.2 p p0 pl
  rw [← pxP_E p0 pl, c] at m
  have e : pxBAct s p wh over T W F S rep = (if 30 < (pxChg s p W.2.2.2.2.2.1).1.length then (4, W, F, S, rep) else (0, pxWr W (pxChg s p W.2.2.2.2.2.1).1, F, S, (rep || (pxChg s p W.2.2.2.2.2.1).2))) := by unfold pxBAct; rw [if_pos (by omega)]
  have nok := pyAct_n ok (Or.inr (Or.inl c))
  have vb := pxNumV_b nok
  have na := n_numberAt H G (p := p + 1) (by omega) nok
  have ec : pxChg s p W.2.2.2.2.2.1 = (List.replicate (pxNumV s (p + 1)).toNat 32 ++ W.2.2.2.2.2.1, false) := by unfold pxChg; rw [if_pos c]
  unfold f_X12_workAct
  rw [pyN_g21 H, px_bs, pyN_a599 H p0 (by omega), px_bs, m, if_neg (show ¬ (pxJ 62 = (97 : Int32)) by decide), if_neg (show ¬ (pxJ 62 = (105 : Int32)) by decide), if_neg (show ¬ (pxJ 62 = (99 : Int32)) by decide), if_neg (show ¬ (pxJ 62 = (100 : Int32)) by decide), if_neg (show ¬ (pxJ 62 = (106 : Int32)) by decide), if_neg (show ¬ (pxJ 62 = (118 : Int32)) by decide), if_neg (show ¬ (pxJ 62 = (112 : Int32)) by decide), if_neg (show ¬ (pxJ 62 = (110 : Int32)) by decide), if_neg (show ¬ (pxJ 62 = (61 : Int32)) by decide), if_neg (show ¬ (pxJ 62 = (104 : Int32)) by decide), if_neg (show ¬ (pxJ 62 = (72 : Int32)) by decide), if_neg (show ¬ (pxJ 62 = (117 : Int32)) by decide), if_neg (show ¬ (pxJ 62 = (101 : Int32)) by decide), pyN_rc H, px_bs]
  unfold f_X12_otherWorkAct
  rw [pyN_g21 H, px_bs, pyN_a599 H p0 (by omega), px_bs, m, if_pos (show pxJ 62 = (62 : Int32) from rfl)]
  unfold g_X12_otherWorkAct_b35
  try simp (maxSteps := 4000000) (disch := first | assumption | omega | (simp only [pyS_I]; assumption)) only [pxL0, pxL1, pxL2, pxL3, pxL4, pxL5, pxL6, pxL7, pxL8, pxL9, pxL10, pxL11, pxL12, pxL13, pxL14, pxL15, pxL16, pxL17, pxL18, pxL19, pxL20, pxL21, pxL22, pxL23, pxL24, pxL25, pxL26, pxL27, pxL28, pxL29, pxL30, pxL31, pxL32, pxL33, pxL34, pxL35, pxL36, pxL37, pxL38, pxL39, pxL40, pxL41, pxL42, pxL43, pxL44, pxL45, pxL46, pxL47, pxL48, pxL49, pxL51, pxL57, pxL58, pxL59, pxL60, pxL61, pxL62, pxL63, pxL64, pxL65, pxL66, pxL67, pxL68, pxL69, pxL70, pxL71, pxL72, pxL73, pxL74, pxL75, pxL76, pxL77, pxL78, pxL79, pxL80, pxL81, pxL82, pxL83, pxL84, pxL85, pxL86, pxL87, pxL88, pxL89, pxL90, pxL91, pxL92, pxL93, pxL94, pxL95, pxL96, pxL97, pxL98, pxL99, pxL100, pxL101, pxL102, pxL103, pxL104, pxL105, pxL106, pxL107, pxL108, pxL109, pxL110, pxL111, pxL112, pxL113, pxL114, pxL115, pxL116, pxL117, pxL118, pxL119, pxL120, pxL121, pxL122, pxL123, pxL124, pxL125, pxL126, pxL200, pxL240, pxL287, pxL388, pxL400, pxL429, pxL431, pxL440, pxL1240, pxL1600, pxL1681, pxL12028, pxL13849, pxL14880, pxL25173, pxL26908, pxL49600, pxL65535, pxL65536, ↓reduceIte, reduceCtorEq, pxJ_add, pxJ_sub, pxJ_mul, pxJ_neg, pxD_lt_t, pxD_lt_f, pxD_le_t, pxD_le_f, pxD_eq_t, pxD_eq_f, pxJ_lt, pxJ_le, pxJ_eq, pxJ_div, px_b2, px_bs, px_rb0, px_rb1, pxW_some, Option.some.injEq, pxM_eq, pxM_ne, pyN_gI, pyN_pI, pyN_rc, pyN_g1, pyN_a588, pyN_s588, pyN_g3, pyN_a589, pyN_s589, pyN_g4, pyN_a590, pyN_s590, pyN_g5, pyN_a591, pyN_s591, pyN_g6, pyN_a592, pyN_s592, pyN_g7, pyN_a593, pyN_s593, pyN_g8, pyN_a594, pyN_s594, pyN_g9, pyN_a595, pyN_s595, pyN_g10, pyN_a596, pyN_s596, pyN_g11, pyN_a597, pyN_s597, pyN_g19, pyN_a598, pyN_s598, pyN_g21, pyN_a599, pyN_s599, pyN_g31, pyN_a600, pyN_s600, pyN_g32, pyN_a601, pyN_s601, pyN_g38, pyN_a602, pyN_s602, pyN_g39, pyN_a603, pyN_s603, pyN_g46, pyN_a604, pyN_s604, pyN_g47, pyN_a605, pyN_s605, pyN_g48, pyN_a606, pyN_s606, pyN_g49, pyN_a607, pyN_s607, pyN_g55, pyN_a608, pyN_s608, pyN_g56, pyN_a609, pyN_s609, pyN_g57, pyN_a610, pyN_s610, pyN_g58, pyN_a611, pyN_s611, pyN_g59, pyN_a612, pyN_s612, pyN_g60, pyN_a613, pyN_s613, pyN_g74, pyN_a614, pyN_s614, pyN_g75, pyN_a615, pyN_s615, pyN_g76, pyN_a616, pyN_s616, pyN_g78, pyN_a617, pyN_s617, pyN_g79, pyN_a618, pyN_s618, G.1, m, na]
  refine pxW_b2 (pxW_b2 (n_moveRight H R (by omega) (by omega) okr.1 vb.1 vb.2) (Q := fun v h' => pyV pyQwa h h' ∧ pyWR s T (c0 + 1) (pxBAct s p wh over T W F S rep) v h') fun v h1 q => ?_) fun v h1 q => pxW_some.mpr q
  obtain ⟨V1, rfl, R1⟩ := q
  have V1' : pyV pyQwa h h1 := V1.mono (fun k f z => by unfold pyQw pyQm pyQR at z; unfold pyQwa; omega)
  have P := n_chgW (rp := rep) A b0 ok p0 V1 (fun k f a z => by unfold pyQWs at a; unfold pyQw pyQm pyQR at z; omega) (fun l => by rw [ec] at l ⊢; exact R1 l) (by rw [V1.m (by unfold pyQw pyQm pyQR; omega), ec, Bool.or_false]; exact A.2.2.2.2.2.2.2.2.2.1)
  rw [← e] at P
  rw [ec] at P
  by_cases z : (List.replicate (pxNumV s (p + 1)).toNat 32 ++ W.2.2.2.2.2.1).length ≤ 30
  · rw [if_pos z] at P ⊢
    try simp (maxSteps := 4000000) (disch := first | assumption | omega | (simp only [pyS_I]; assumption)) only [pxL0, pxL1, pxL2, pxL3, pxL4, pxL5, pxL6, pxL7, pxL8, pxL9, pxL10, pxL11, pxL12, pxL13, pxL14, pxL15, pxL16, pxL17, pxL18, pxL19, pxL20, pxL21, pxL22, pxL23, pxL24, pxL25, pxL26, pxL27, pxL28, pxL29, pxL30, pxL31, pxL32, pxL33, pxL34, pxL35, pxL36, pxL37, pxL38, pxL39, pxL40, pxL41, pxL42, pxL43, pxL44, pxL45, pxL46, pxL47, pxL48, pxL49, pxL51, pxL57, pxL58, pxL59, pxL60, pxL61, pxL62, pxL63, pxL64, pxL65, pxL66, pxL67, pxL68, pxL69, pxL70, pxL71, pxL72, pxL73, pxL74, pxL75, pxL76, pxL77, pxL78, pxL79, pxL80, pxL81, pxL82, pxL83, pxL84, pxL85, pxL86, pxL87, pxL88, pxL89, pxL90, pxL91, pxL92, pxL93, pxL94, pxL95, pxL96, pxL97, pxL98, pxL99, pxL100, pxL101, pxL102, pxL103, pxL104, pxL105, pxL106, pxL107, pxL108, pxL109, pxL110, pxL111, pxL112, pxL113, pxL114, pxL115, pxL116, pxL117, pxL118, pxL119, pxL120, pxL121, pxL122, pxL123, pxL124, pxL125, pxL126, pxL200, pxL240, pxL287, pxL388, pxL400, pxL429, pxL431, pxL440, pxL1240, pxL1600, pxL1681, pxL12028, pxL13849, pxL14880, pxL25173, pxL26908, pxL49600, pxL65535, pxL65536, ↓reduceIte, reduceCtorEq, pxJ_add, pxJ_sub, pxJ_mul, pxJ_neg, pxD_lt_t, pxD_lt_f, pxD_le_t, pxD_le_f, pxD_eq_t, pxD_eq_f, pxJ_lt, pxJ_le, pxJ_eq, pxJ_div, px_b2, px_bs, px_rb0, px_rb1, pxW_some, Option.some.injEq, pxM_eq, pxM_ne, pyN_gI, pyN_pI, pyN_rc, pyN_g1, pyN_a588, pyN_s588, pyN_g3, pyN_a589, pyN_s589, pyN_g4, pyN_a590, pyN_s590, pyN_g5, pyN_a591, pyN_s591, pyN_g6, pyN_a592, pyN_s592, pyN_g7, pyN_a593, pyN_s593, pyN_g8, pyN_a594, pyN_s594, pyN_g9, pyN_a595, pyN_s595, pyN_g10, pyN_a596, pyN_s596, pyN_g11, pyN_a597, pyN_s597, pyN_g19, pyN_a598, pyN_s598, pyN_g21, pyN_a599, pyN_s599, pyN_g31, pyN_a600, pyN_s600, pyN_g32, pyN_a601, pyN_s601, pyN_g38, pyN_a602, pyN_s602, pyN_g39, pyN_a603, pyN_s603, pyN_g46, pyN_a604, pyN_s604, pyN_g47, pyN_a605, pyN_s605, pyN_g48, pyN_a606, pyN_s606, pyN_g49, pyN_a607, pyN_s607, pyN_g55, pyN_a608, pyN_s608, pyN_g56, pyN_a609, pyN_s609, pyN_g57, pyN_a610, pyN_s610, pyN_g58, pyN_a611, pyN_s611, pyN_g59, pyN_a612, pyN_s612, pyN_g60, pyN_a613, pyN_s613, pyN_g74, pyN_a614, pyN_s614, pyN_g75, pyN_a615, pyN_s615, pyN_g76, pyN_a616, pyN_s616, pyN_g78, pyN_a617, pyN_s617, pyN_g79, pyN_a618, pyN_s618]
    exact ⟨V1', P⟩
  · rw [if_neg z] at P ⊢
    try simp (maxSteps := 4000000) (disch := first | assumption | omega | (simp only [pyS_I]; assumption)) only [pxL0, pxL1, pxL2, pxL3, pxL4, pxL5, pxL6, pxL7, pxL8, pxL9, pxL10, pxL11, pxL12, pxL13, pxL14, pxL15, pxL16, pxL17, pxL18, pxL19, pxL20, pxL21, pxL22, pxL23, pxL24, pxL25, pxL26, pxL27, pxL28, pxL29, pxL30, pxL31, pxL32, pxL33, pxL34, pxL35, pxL36, pxL37, pxL38, pxL39, pxL40, pxL41, pxL42, pxL43, pxL44, pxL45, pxL46, pxL47, pxL48, pxL49, pxL51, pxL57, pxL58, pxL59, pxL60, pxL61, pxL62, pxL63, pxL64, pxL65, pxL66, pxL67, pxL68, pxL69, pxL70, pxL71, pxL72, pxL73, pxL74, pxL75, pxL76, pxL77, pxL78, pxL79, pxL80, pxL81, pxL82, pxL83, pxL84, pxL85, pxL86, pxL87, pxL88, pxL89, pxL90, pxL91, pxL92, pxL93, pxL94, pxL95, pxL96, pxL97, pxL98, pxL99, pxL100, pxL101, pxL102, pxL103, pxL104, pxL105, pxL106, pxL107, pxL108, pxL109, pxL110, pxL111, pxL112, pxL113, pxL114, pxL115, pxL116, pxL117, pxL118, pxL119, pxL120, pxL121, pxL122, pxL123, pxL124, pxL125, pxL126, pxL200, pxL240, pxL287, pxL388, pxL400, pxL429, pxL431, pxL440, pxL1240, pxL1600, pxL1681, pxL12028, pxL13849, pxL14880, pxL25173, pxL26908, pxL49600, pxL65535, pxL65536, ↓reduceIte, reduceCtorEq, pxJ_add, pxJ_sub, pxJ_mul, pxJ_neg, pxD_lt_t, pxD_lt_f, pxD_le_t, pxD_le_f, pxD_eq_t, pxD_eq_f, pxJ_lt, pxJ_le, pxJ_eq, pxJ_div, px_b2, px_bs, px_rb0, px_rb1, pxW_some, Option.some.injEq, pxM_eq, pxM_ne, pyN_gI, pyN_pI, pyN_rc, pyN_g1, pyN_a588, pyN_s588, pyN_g3, pyN_a589, pyN_s589, pyN_g4, pyN_a590, pyN_s590, pyN_g5, pyN_a591, pyN_s591, pyN_g6, pyN_a592, pyN_s592, pyN_g7, pyN_a593, pyN_s593, pyN_g8, pyN_a594, pyN_s594, pyN_g9, pyN_a595, pyN_s595, pyN_g10, pyN_a596, pyN_s596, pyN_g11, pyN_a597, pyN_s597, pyN_g19, pyN_a598, pyN_s598, pyN_g21, pyN_a599, pyN_s599, pyN_g31, pyN_a600, pyN_s600, pyN_g32, pyN_a601, pyN_s601, pyN_g38, pyN_a602, pyN_s602, pyN_g39, pyN_a603, pyN_s603, pyN_g46, pyN_a604, pyN_s604, pyN_g47, pyN_a605, pyN_s605, pyN_g48, pyN_a606, pyN_s606, pyN_g49, pyN_a607, pyN_s607, pyN_g55, pyN_a608, pyN_s608, pyN_g56, pyN_a609, pyN_s609, pyN_g57, pyN_a610, pyN_s610, pyN_g58, pyN_a611, pyN_s611, pyN_g59, pyN_a612, pyN_s612, pyN_g60, pyN_a613, pyN_s613, pyN_g74, pyN_a614, pyN_s614, pyN_g75, pyN_a615, pyN_s615, pyN_g76, pyN_a616, pyN_s616, pyN_g78, pyN_a617, pyN_s617, pyN_g79, pyN_a618, pyN_s618]
    exact ⟨V1', P⟩
set_option maxHeartbeats 8000000 in
theorem n_wa_60 (A : pyWs h s T c0 W F S rep) (g : W.2.2.2.2.1 = false) (b0 : 0 ≤ c0) (b1 : c0 ≤ 400) (e27 : pxM h 587 27 = wh) (w0 : 0 ≤ wh) (w3 : wh ≤ 3) (q0 : 0 ≤ q) (q1 : q < 60) (e614 : pxM h 614 q.toNat = pyB r) (ov : wh = 3 → over = !r) (p0 : 0 ≤ p) (ok : (pxAct s p).1 = true) (nz : pxP s p = 115 → pxP s (pxRep s (p + 1)).2 ≠ 48) (c : pxP s p = 60) :
    pxW (f_X12_workAct h 587 (pxJ q) (pxJ p)) fun v h' => pyV pyQwa h h' ∧ pyWR s T (c0 + 1) (pxBAct s p wh over T W F S rep) v h' := by
  have H := A.1
  have G := A.2.1
  have l60 := G.2.1.1
  have okr := A.2.2.2.2.2.2.1.2.1
  have R := A.2.2.2.2.2.2.1.1
  have IS := A.2.2.2.1.1
  have He := A.2.2.2.1.2.1
  have Fi := A.2.2.2.1.2.2.2
  have pl := (pxP_lt (s := s) (p := p) (by omega)).2
  have m := G.2.2 p p0 pl
  rw [← pxP_E p0 pl, c] at m
  have e : pxBAct s p wh over T W F S rep = (if 30 < (pxChg s p W.2.2.2.2.2.1).1.length then (4, W, F, S, rep) else (0, pxWr W (pxChg s p W.2.2.2.2.2.1).1, F, S, (rep || (pxChg s p W.2.2.2.2.2.1).2))) := by unfold pxBAct; rw [if_pos (by omega)]
  have nok := pyAct_n ok (Or.inr (Or.inr c))
  have vb := pxNumV_b nok
  have na := n_numberAt H G (p := p + 1) (by omega) nok
  have ec : pxChg s p W.2.2.2.2.2.1 = (pxSl W.2.2.2.2.2.1 (pxLd W.2.2.2.2.2.1 (pxNumV s (p + 1)).toNat 0) W.2.2.2.2.2.1.length, false) := by unfold pxChg; rw [if_neg (by omega), if_neg (by omega), if_neg (by omega)]
  have le30 : (pxChg s p W.2.2.2.2.2.1).1.length ≤ 30 := by
    rw [ec]
    have := pySl_le (r := W.2.2.2.2.2.1) (a := pxLd W.2.2.2.2.2.1 (pxNumV s (p + 1)).toNat 0) (b := W.2.2.2.2.2.1.length)
    have := okr.1
    show (pxSl W.2.2.2.2.2.1 (pxLd W.2.2.2.2.2.1 (pxNumV s (p + 1)).toNat 0) W.2.2.2.2.2.1.length).length ≤ 30
    omega
  unfold f_X12_workAct
  rw [pyN_g21 H, px_bs, pyN_a599 H p0 (by omega), px_bs, m, if_neg (show ¬ (pxJ 60 = (97 : Int32)) by decide), if_neg (show ¬ (pxJ 60 = (105 : Int32)) by decide), if_neg (show ¬ (pxJ 60 = (99 : Int32)) by decide), if_neg (show ¬ (pxJ 60 = (100 : Int32)) by decide), if_neg (show ¬ (pxJ 60 = (106 : Int32)) by decide), if_neg (show ¬ (pxJ 60 = (118 : Int32)) by decide), if_neg (show ¬ (pxJ 60 = (112 : Int32)) by decide), if_neg (show ¬ (pxJ 60 = (110 : Int32)) by decide), if_neg (show ¬ (pxJ 60 = (61 : Int32)) by decide), if_neg (show ¬ (pxJ 60 = (104 : Int32)) by decide), if_neg (show ¬ (pxJ 60 = (72 : Int32)) by decide), if_neg (show ¬ (pxJ 60 = (117 : Int32)) by decide), if_neg (show ¬ (pxJ 60 = (101 : Int32)) by decide), pyN_rc H, px_bs]
  unfold f_X12_otherWorkAct
  rw [pyN_g21 H, px_bs, pyN_a599 H p0 (by omega), px_bs, m, if_neg (show ¬ (pxJ 60 = (62 : Int32)) by decide), if_pos (show pxJ 60 = (60 : Int32) from rfl)]
  try simp (maxSteps := 4000000) (disch := first | assumption | omega | (simp only [pyS_I]; assumption)) only [pxL0, pxL1, pxL2, pxL3, pxL4, pxL5, pxL6, pxL7, pxL8, pxL9, pxL10, pxL11, pxL12, pxL13, pxL14, pxL15, pxL16, pxL17, pxL18, pxL19, pxL20, pxL21, pxL22, pxL23, pxL24, pxL25, pxL26, pxL27, pxL28, pxL29, pxL30, pxL31, pxL32, pxL33, pxL34, pxL35, pxL36, pxL37, pxL38, pxL39, pxL40, pxL41, pxL42, pxL43, pxL44, pxL45, pxL46, pxL47, pxL48, pxL49, pxL51, pxL57, pxL58, pxL59, pxL60, pxL61, pxL62, pxL63, pxL64, pxL65, pxL66, pxL67, pxL68, pxL69, pxL70, pxL71, pxL72, pxL73, pxL74, pxL75, pxL76, pxL77, pxL78, pxL79, pxL80, pxL81, pxL82, pxL83, pxL84, pxL85, pxL86, pxL87, pxL88, pxL89, pxL90, pxL91, pxL92, pxL93, pxL94, pxL95, pxL96, pxL97, pxL98, pxL99, pxL100, pxL101, pxL102, pxL103, pxL104, pxL105, pxL106, pxL107, pxL108, pxL109, pxL110, pxL111, pxL112, pxL113, pxL114, pxL115, pxL116, pxL117, pxL118, pxL119, pxL120, pxL121, pxL122, pxL123, pxL124, pxL125, pxL126, pxL200, pxL240, pxL287, pxL388, pxL400, pxL429, pxL431, pxL440, pxL1240, pxL1600, pxL1681, pxL12028, pxL13849, pxL14880, pxL25173, pxL26908, pxL49600, pxL65535, pxL65536, ↓reduceIte, reduceCtorEq, pxJ_add, pxJ_sub, pxJ_mul, pxJ_neg, pxD_lt_t, pxD_lt_f, pxD_le_t, pxD_le_f, pxD_eq_t, pxD_eq_f, pxJ_lt, pxJ_le, pxJ_eq, pxJ_div, px_b2, px_bs, px_rb0, px_rb1, pxW_some, Option.some.injEq, pxM_eq, pxM_ne, pyN_gI, pyN_pI, pyN_rc, pyN_g1, pyN_a588, pyN_s588, pyN_g3, pyN_a589, pyN_s589, pyN_g4, pyN_a590, pyN_s590, pyN_g5, pyN_a591, pyN_s591, pyN_g6, pyN_a592, pyN_s592, pyN_g7, pyN_a593, pyN_s593, pyN_g8, pyN_a594, pyN_s594, pyN_g9, pyN_a595, pyN_s595, pyN_g10, pyN_a596, pyN_s596, pyN_g11, pyN_a597, pyN_s597, pyN_g19, pyN_a598, pyN_s598, pyN_g21, pyN_a599, pyN_s599, pyN_g31, pyN_a600, pyN_s600, pyN_g32, pyN_a601, pyN_s601, pyN_g38, pyN_a602, pyN_s602, pyN_g39, pyN_a603, pyN_s603, pyN_g46, pyN_a604, pyN_s604, pyN_g47, pyN_a605, pyN_s605, pyN_g48, pyN_a606, pyN_s606, pyN_g49, pyN_a607, pyN_s607, pyN_g55, pyN_a608, pyN_s608, pyN_g56, pyN_a609, pyN_s609, pyN_g57, pyN_a610, pyN_s610, pyN_g58, pyN_a611, pyN_s611, pyN_g59, pyN_a612, pyN_s612, pyN_g60, pyN_a613, pyN_s613, pyN_g74, pyN_a614, pyN_s614, pyN_g75, pyN_a615, pyN_s615, pyN_g76, pyN_a616, pyN_s616, pyN_g78, pyN_a617, pyN_s617, pyN_g79, pyN_a618, pyN_s618, G.1, m, na]
  refine pxW_b2 (pxW_b2 (n_moveLeft H R (by omega) (by omega) okr vb.1 vb.2) (Q := fun v h' => pyV pyQwa h h' ∧ pyWR s T (c0 + 1) (pxBAct s p wh over T W F S rep) v h') fun v h1 q => ?_) fun v h1 q => pxW_some.mpr q
  obtain ⟨V1, R1⟩ := q
  have V1' : pyV pyQwa h h1 := V1.mono (fun k f z => by unfold pyQw pyQm pyQR at z; unfold pyQwa; omega)
  have P := n_chgW (rp := rep) A b0 ok p0 V1 (fun k f a z => by unfold pyQWs at a; unfold pyQw pyQm pyQR at z; omega) (fun l => by rw [ec] at l ⊢; exact R1) (by rw [V1.m (by unfold pyQw pyQm pyQR; omega), ec, Bool.or_false]; exact A.2.2.2.2.2.2.2.2.2.1)
  rw [← e, if_pos le30] at P
  exact pxW_some.mpr ⟨V1', P⟩
set_option maxHeartbeats 8000000 in
theorem n_wa_122 (A : pyWs h s T c0 W F S rep) (g : W.2.2.2.2.1 = false) (b0 : 0 ≤ c0) (b1 : c0 ≤ 400) (e27 : pxM h 587 27 = wh) (w0 : 0 ≤ wh) (w3 : wh ≤ 3) (q0 : 0 ≤ q) (q1 : q < 60) (e614 : pxM h 614 q.toNat = pyB r) (ov : wh = 3 → over = !r) (p0 : 0 ≤ p) (ok : (pxAct s p).1 = true) (nz : pxP s p = 115 → pxP s (pxRep s (p + 1)).2 ≠ 48) (c : pxP s p = 122) :
    pxW (f_X12_workAct h 587 (pxJ q) (pxJ p)) fun v h' => pyV pyQwa h h' ∧ pyWR s T (c0 + 1) (pxBAct s p wh over T W F S rep) v h' := by
  have H := A.1
  have G := A.2.1
  have l60 := G.2.1.1
  have okr := A.2.2.2.2.2.2.1.2.1
  have R := A.2.2.2.2.2.2.1.1
  have IS := A.2.2.2.1.1
  have He := A.2.2.2.1.2.1
  have Fi := A.2.2.2.1.2.2.2
  have pl := (pxP_lt (s := s) (p := p) (by omega)).2
  have m := G.2.2 p p0 pl
  rw [← pxP_E p0 pl, c] at m
  have e : pxBAct s p wh over T W F S rep = (if 30 < (pxChg s p W.2.2.2.2.2.1).1.length then (4, W, F, S, rep) else (0, pxWr W (pxChg s p W.2.2.2.2.2.1).1, F, S, (rep || (pxChg s p W.2.2.2.2.2.1).2))) := by unfold pxBAct; rw [if_pos (by omega)]
  have tok : (pxTrn s (p + 1)).1 = true := by
    unfold pxAct at ok
    rw [c] at ok
    exact ok
  have ec : pxChg s p W.2.2.2.2.2.1 = (W.2.2.2.2.2.1.map (fun c => pxTc s (p + 2) (p + 3 + pxTrnN s (p + 1)) c (pxTrnN s (p + 1)).toNat 0), false) := by unfold pxChg; rw [if_neg (by omega), if_neg (by omega), if_pos c]
  have le30 : (pxChg s p W.2.2.2.2.2.1).1.length ≤ 30 := by
    rw [ec]
    have := okr.1
    show (W.2.2.2.2.2.1.map (fun c => pxTc s (p + 2) (p + 3 + pxTrnN s (p + 1)) c (pxTrnN s (p + 1)).toNat 0)).length ≤ 30
    rw [List.length_map]
    omega
  unfold f_X12_workAct
  rw [pyN_g21 H, px_bs, pyN_a599 H p0 (by omega), px_bs, m, if_neg (show ¬ (pxJ 122 = (97 : Int32)) by decide), if_neg (show ¬ (pxJ 122 = (105 : Int32)) by decide), if_neg (show ¬ (pxJ 122 = (99 : Int32)) by decide), if_neg (show ¬ (pxJ 122 = (100 : Int32)) by decide), if_neg (show ¬ (pxJ 122 = (106 : Int32)) by decide), if_neg (show ¬ (pxJ 122 = (118 : Int32)) by decide), if_neg (show ¬ (pxJ 122 = (112 : Int32)) by decide), if_neg (show ¬ (pxJ 122 = (110 : Int32)) by decide), if_neg (show ¬ (pxJ 122 = (61 : Int32)) by decide), if_neg (show ¬ (pxJ 122 = (104 : Int32)) by decide), if_neg (show ¬ (pxJ 122 = (72 : Int32)) by decide), if_neg (show ¬ (pxJ 122 = (117 : Int32)) by decide), if_neg (show ¬ (pxJ 122 = (101 : Int32)) by decide), pyN_rc H, px_bs]
  unfold f_X12_otherWorkAct
  rw [pyN_g21 H, px_bs, pyN_a599 H p0 (by omega), px_bs, m, if_neg (show ¬ (pxJ 122 = (62 : Int32)) by decide), if_neg (show ¬ (pxJ 122 = (60 : Int32)) by decide), if_neg (show ¬ (pxJ 122 = (115 : Int32)) by decide), if_pos (show pxJ 122 = (122 : Int32) from rfl)]
  try simp (maxSteps := 4000000) (disch := first | assumption | omega | (simp only [pyS_I]; assumption)) only [pxL0, pxL1, pxL2, pxL3, pxL4, pxL5, pxL6, pxL7, pxL8, pxL9, pxL10, pxL11, pxL12, pxL13, pxL14, pxL15, pxL16, pxL17, pxL18, pxL19, pxL20, pxL21, pxL22, pxL23, pxL24, pxL25, pxL26, pxL27, pxL28, pxL29, pxL30, pxL31, pxL32, pxL33, pxL34, pxL35, pxL36, pxL37, pxL38, pxL39, pxL40, pxL41, pxL42, pxL43, pxL44, pxL45, pxL46, pxL47, pxL48, pxL49, pxL51, pxL57, pxL58, pxL59, pxL60, pxL61, pxL62, pxL63, pxL64, pxL65, pxL66, pxL67, pxL68, pxL69, pxL70, pxL71, pxL72, pxL73, pxL74, pxL75, pxL76, pxL77, pxL78, pxL79, pxL80, pxL81, pxL82, pxL83, pxL84, pxL85, pxL86, pxL87, pxL88, pxL89, pxL90, pxL91, pxL92, pxL93, pxL94, pxL95, pxL96, pxL97, pxL98, pxL99, pxL100, pxL101, pxL102, pxL103, pxL104, pxL105, pxL106, pxL107, pxL108, pxL109, pxL110, pxL111, pxL112, pxL113, pxL114, pxL115, pxL116, pxL117, pxL118, pxL119, pxL120, pxL121, pxL122, pxL123, pxL124, pxL125, pxL126, pxL200, pxL240, pxL287, pxL388, pxL400, pxL429, pxL431, pxL440, pxL1240, pxL1600, pxL1681, pxL12028, pxL13849, pxL14880, pxL25173, pxL26908, pxL49600, pxL65535, pxL65536, ↓reduceIte, reduceCtorEq, pxJ_add, pxJ_sub, pxJ_mul, pxJ_neg, pxD_lt_t, pxD_lt_f, pxD_le_t, pxD_le_f, pxD_eq_t, pxD_eq_f, pxJ_lt, pxJ_le, pxJ_eq, pxJ_div, px_b2, px_bs, px_rb0, px_rb1, pxW_some, Option.some.injEq, pxM_eq, pxM_ne, pyN_gI, pyN_pI, pyN_rc, pyN_g1, pyN_a588, pyN_s588, pyN_g3, pyN_a589, pyN_s589, pyN_g4, pyN_a590, pyN_s590, pyN_g5, pyN_a591, pyN_s591, pyN_g6, pyN_a592, pyN_s592, pyN_g7, pyN_a593, pyN_s593, pyN_g8, pyN_a594, pyN_s594, pyN_g9, pyN_a595, pyN_s595, pyN_g10, pyN_a596, pyN_s596, pyN_g11, pyN_a597, pyN_s597, pyN_g19, pyN_a598, pyN_s598, pyN_g21, pyN_a599, pyN_s599, pyN_g31, pyN_a600, pyN_s600, pyN_g32, pyN_a601, pyN_s601, pyN_g38, pyN_a602, pyN_s602, pyN_g39, pyN_a603, pyN_s603, pyN_g46, pyN_a604, pyN_s604, pyN_g47, pyN_a605, pyN_s605, pyN_g48, pyN_a606, pyN_s606, pyN_g49, pyN_a607, pyN_s607, pyN_g55, pyN_a608, pyN_s608, pyN_g56, pyN_a609, pyN_s609, pyN_g57, pyN_a610, pyN_s610, pyN_g58, pyN_a611, pyN_s611, pyN_g59, pyN_a612, pyN_s612, pyN_g60, pyN_a613, pyN_s613, pyN_g74, pyN_a614, pyN_s614, pyN_g75, pyN_a615, pyN_s615, pyN_g76, pyN_a616, pyN_s616, pyN_g78, pyN_a617, pyN_s617, pyN_g79, pyN_a618, pyN_s618, G.1, m]
  refine pxW_b2 (pxW_b2 (n_turns H G R (by omega) (by omega) okr p0 (by omega) tok) (Q := fun v h' => pyV pyQwa h h' ∧ pyWR s T (c0 + 1) (pxBAct s p wh over T W F S rep) v h') fun v h1 q => ?_) fun v h1 q => pxW_some.mpr q
  obtain ⟨V1, R1⟩ := q
  have V1' : pyV pyQwa h h1 := V1.mono (fun k f z => by unfold pyQR at z; unfold pyQwa; omega)
  have P := n_chgW (rp := rep) A b0 ok p0 V1 (fun k f a z => by unfold pyQWs at a; unfold pyQR at z; omega) (fun l => by rw [ec] at l ⊢; exact R1) (by rw [V1.m (by unfold pyQR; omega), ec, Bool.or_false]; exact A.2.2.2.2.2.2.2.2.2.1)
  rw [← e, if_pos le30] at P
  exact pxW_some.mpr ⟨V1', P⟩
set_option maxHeartbeats 8000000 in
theorem n_wa_115 (A : pyWs h s T c0 W F S rep) (g : W.2.2.2.2.1 = false) (b0 : 0 ≤ c0) (b1 : c0 ≤ 400) (e27 : pxM h 587 27 = wh) (w0 : 0 ≤ wh) (w3 : wh ≤ 3) (q0 : 0 ≤ q) (q1 : q < 60) (e614 : pxM h 614 q.toNat = pyB r) (ov : wh = 3 → over = !r) (p0 : 0 ≤ p) (ok : (pxAct s p).1 = true) (nz : pxP s p = 115 → pxP s (pxRep s (p + 1)).2 ≠ 48) (c : pxP s p = 115) :
    pxW (f_X12_workAct h 587 (pxJ q) (pxJ p)) fun v h' => pyV pyQwa h h' ∧ pyWR s T (c0 + 1) (pxBAct s p wh over T W F S rep) v h' := by
  have H := A.1
  have G := A.2.1
  have l60 := G.2.1.1
  have okr := A.2.2.2.2.2.2.1.2.1
  have R := A.2.2.2.2.2.2.1.1
  have IS := A.2.2.2.1.1
  have He := A.2.2.2.1.2.1
  have Fi := A.2.2.2.1.2.2.2
  have pl := (pxP_lt (s := s) (p := p) (by omega)).2
  have m := G.2.2 p p0 pl
  rw [← pxP_E p0 pl, c] at m
  have e : pxBAct s p wh over T W F S rep = (if 30 < (pxChg s p W.2.2.2.2.2.1).1.length then (4, W, F, S, rep) else (0, pxWr W (pxChg s p W.2.2.2.2.2.1).1, F, S, (rep || (pxChg s p W.2.2.2.2.2.1).2))) := by unfold pxBAct; rw [if_pos (by omega)]
  have rok : (pxRep s (p + 1)).1 = true := by
    unfold pxAct at ok
    rw [c] at ok
    exact ok
  unfold f_X12_workAct
  rw [pyN_g21 H, px_bs, pyN_a599 H p0 (by omega), px_bs, m, if_neg (show ¬ (pxJ 115 = (97 : Int32)) by decide), if_neg (show ¬ (pxJ 115 = (105 : Int32)) by decide), if_neg (show ¬ (pxJ 115 = (99 : Int32)) by decide), if_neg (show ¬ (pxJ 115 = (100 : Int32)) by decide), if_neg (show ¬ (pxJ 115 = (106 : Int32)) by decide), if_neg (show ¬ (pxJ 115 = (118 : Int32)) by decide), if_neg (show ¬ (pxJ 115 = (112 : Int32)) by decide), if_neg (show ¬ (pxJ 115 = (110 : Int32)) by decide), if_neg (show ¬ (pxJ 115 = (61 : Int32)) by decide), if_neg (show ¬ (pxJ 115 = (104 : Int32)) by decide), if_neg (show ¬ (pxJ 115 = (72 : Int32)) by decide), if_neg (show ¬ (pxJ 115 = (117 : Int32)) by decide), if_neg (show ¬ (pxJ 115 = (101 : Int32)) by decide), pyN_rc H, px_bs]
  unfold f_X12_otherWorkAct
  rw [pyN_g21 H, px_bs, pyN_a599 H p0 (by omega), px_bs, m, if_neg (show ¬ (pxJ 115 = (62 : Int32)) by decide), if_neg (show ¬ (pxJ 115 = (60 : Int32)) by decide), if_pos (show pxJ 115 = (115 : Int32) from rfl)]
  unfold g_X12_otherWorkAct_b80
  try simp (maxSteps := 4000000) (disch := first | assumption | omega | (simp only [pyS_I]; assumption)) only [pxL0, pxL1, pxL2, pxL3, pxL4, pxL5, pxL6, pxL7, pxL8, pxL9, pxL10, pxL11, pxL12, pxL13, pxL14, pxL15, pxL16, pxL17, pxL18, pxL19, pxL20, pxL21, pxL22, pxL23, pxL24, pxL25, pxL26, pxL27, pxL28, pxL29, pxL30, pxL31, pxL32, pxL33, pxL34, pxL35, pxL36, pxL37, pxL38, pxL39, pxL40, pxL41, pxL42, pxL43, pxL44, pxL45, pxL46, pxL47, pxL48, pxL49, pxL51, pxL57, pxL58, pxL59, pxL60, pxL61, pxL62, pxL63, pxL64, pxL65, pxL66, pxL67, pxL68, pxL69, pxL70, pxL71, pxL72, pxL73, pxL74, pxL75, pxL76, pxL77, pxL78, pxL79, pxL80, pxL81, pxL82, pxL83, pxL84, pxL85, pxL86, pxL87, pxL88, pxL89, pxL90, pxL91, pxL92, pxL93, pxL94, pxL95, pxL96, pxL97, pxL98, pxL99, pxL100, pxL101, pxL102, pxL103, pxL104, pxL105, pxL106, pxL107, pxL108, pxL109, pxL110, pxL111, pxL112, pxL113, pxL114, pxL115, pxL116, pxL117, pxL118, pxL119, pxL120, pxL121, pxL122, pxL123, pxL124, pxL125, pxL126, pxL200, pxL240, pxL287, pxL388, pxL400, pxL429, pxL431, pxL440, pxL1240, pxL1600, pxL1681, pxL12028, pxL13849, pxL14880, pxL25173, pxL26908, pxL49600, pxL65535, pxL65536, ↓reduceIte, reduceCtorEq, pxJ_add, pxJ_sub, pxJ_mul, pxJ_neg, pxD_lt_t, pxD_lt_f, pxD_le_t, pxD_le_f, pxD_eq_t, pxD_eq_f, pxJ_lt, pxJ_le, pxJ_eq, pxJ_div, px_b2, px_bs, px_rb0, px_rb1, pxW_some, Option.some.injEq, pxM_eq, pxM_ne, pyN_gI, pyN_pI, pyN_rc, pyN_g1, pyN_a588, pyN_s588, pyN_g3, pyN_a589, pyN_s589, pyN_g4, pyN_a590, pyN_s590, pyN_g5, pyN_a591, pyN_s591, pyN_g6, pyN_a592, pyN_s592, pyN_g7, pyN_a593, pyN_s593, pyN_g8, pyN_a594, pyN_s594, pyN_g9, pyN_a595, pyN_s595, pyN_g10, pyN_a596, pyN_s596, pyN_g11, pyN_a597, pyN_s597, pyN_g19, pyN_a598, pyN_s598, pyN_g21, pyN_a599, pyN_s599, pyN_g31, pyN_a600, pyN_s600, pyN_g32, pyN_a601, pyN_s601, pyN_g38, pyN_a602, pyN_s602, pyN_g39, pyN_a603, pyN_s603, pyN_g46, pyN_a604, pyN_s604, pyN_g47, pyN_a605, pyN_s605, pyN_g48, pyN_a606, pyN_s606, pyN_g49, pyN_a607, pyN_s607, pyN_g55, pyN_a608, pyN_s608, pyN_g56, pyN_a609, pyN_s609, pyN_g57, pyN_a610, pyN_s610, pyN_g58, pyN_a611, pyN_s611, pyN_g59, pyN_a612, pyN_s612, pyN_g60, pyN_a613, pyN_s613, pyN_g74, pyN_a614, pyN_s614, pyN_g75, pyN_a615, pyN_s615, pyN_g76, pyN_a616, pyN_s616, pyN_g78, pyN_a617, pyN_s617, pyN_g79, pyN_a618, pyN_s618, G.1, m]
  refine pxW_b2 (pxW_b2 (n_replaces H G R (by omega) (by omega) okr p0 (by omega) rok (nz c) c) (Q := fun v h' => pyV pyQwa h h' ∧ pyWR s T (c0 + 1) (pxBAct s p wh over T W F S rep) v h') fun v h1 q => ?_) fun v h1 q => pxW_some.mpr q
  have q' : pyV (fun z f => pyQx 429 z f ∨ pyQk z f) h h1 ∧ ((pxChg s p W.2.2.2.2.2.1).2 = true → v = pxJ (if (pxChg s p W.2.2.2.2.2.1).1.length ≤ 30 then 1 else 0) ∧ ((pxChg s p W.2.2.2.2.2.1).1.length ≤ 30 → pyR h1 429 (pxChg s p W.2.2.2.2.2.1).1) ∧ pxM h1 587 44 = 1) ∧ ((pxChg s p W.2.2.2.2.2.1).2 = false → v = pxJ 1 ∧ pyR h1 429 W.2.2.2.2.2.1 ∧ pxM h1 587 44 = pxM h 587 44) := by
    rcases q with ⟨q1, q2⟩ | q
    · exact ⟨q1, q2.2⟩
    · exact q
  obtain ⟨V1, q1, q2⟩ := q'
  have V1' : pyV pyQwa h h1 := V1.mono (fun k f z => by unfold pyQx pyQm pyQR pyQn pyQk at z; unfold pyQwa; omega)
  have e44 : pxM h 587 44 = pyB rep := A.2.2.2.2.2.2.2.2.2.1
  by_cases is : (pxChg s p W.2.2.2.2.2.1).2 = true
  · obtain ⟨x1, x2, x3⟩ := q1 is
    have P := n_chgW (rp := rep) A b0 ok p0 V1 (fun k f a z => by unfold pyQWs at a; unfold pyQx pyQm pyQR pyQn pyQk at z; omega) x2 (by rw [x3, is, Bool.or_true]; rfl)
    rw [← e] at P
    rw [x1]
    by_cases z : (pxChg s p W.2.2.2.2.2.1).1.length ≤ 30
    · rw [if_pos z] at P ⊢
      try simp (maxSteps := 4000000) (disch := first | assumption | omega | (simp only [pyS_I]; assumption)) only [pxL0, pxL1, pxL2, pxL3, pxL4, pxL5, pxL6, pxL7, pxL8, pxL9, pxL10, pxL11, pxL12, pxL13, pxL14, pxL15, pxL16, pxL17, pxL18, pxL19, pxL20, pxL21, pxL22, pxL23, pxL24, pxL25, pxL26, pxL27, pxL28, pxL29, pxL30, pxL31, pxL32, pxL33, pxL34, pxL35, pxL36, pxL37, pxL38, pxL39, pxL40, pxL41, pxL42, pxL43, pxL44, pxL45, pxL46, pxL47, pxL48, pxL49, pxL51, pxL57, pxL58, pxL59, pxL60, pxL61, pxL62, pxL63, pxL64, pxL65, pxL66, pxL67, pxL68, pxL69, pxL70, pxL71, pxL72, pxL73, pxL74, pxL75, pxL76, pxL77, pxL78, pxL79, pxL80, pxL81, pxL82, pxL83, pxL84, pxL85, pxL86, pxL87, pxL88, pxL89, pxL90, pxL91, pxL92, pxL93, pxL94, pxL95, pxL96, pxL97, pxL98, pxL99, pxL100, pxL101, pxL102, pxL103, pxL104, pxL105, pxL106, pxL107, pxL108, pxL109, pxL110, pxL111, pxL112, pxL113, pxL114, pxL115, pxL116, pxL117, pxL118, pxL119, pxL120, pxL121, pxL122, pxL123, pxL124, pxL125, pxL126, pxL200, pxL240, pxL287, pxL388, pxL400, pxL429, pxL431, pxL440, pxL1240, pxL1600, pxL1681, pxL12028, pxL13849, pxL14880, pxL25173, pxL26908, pxL49600, pxL65535, pxL65536, ↓reduceIte, reduceCtorEq, pxJ_add, pxJ_sub, pxJ_mul, pxJ_neg, pxD_lt_t, pxD_lt_f, pxD_le_t, pxD_le_f, pxD_eq_t, pxD_eq_f, pxJ_lt, pxJ_le, pxJ_eq, pxJ_div, px_b2, px_bs, px_rb0, px_rb1, pxW_some, Option.some.injEq, pxM_eq, pxM_ne, pyN_gI, pyN_pI, pyN_rc, pyN_g1, pyN_a588, pyN_s588, pyN_g3, pyN_a589, pyN_s589, pyN_g4, pyN_a590, pyN_s590, pyN_g5, pyN_a591, pyN_s591, pyN_g6, pyN_a592, pyN_s592, pyN_g7, pyN_a593, pyN_s593, pyN_g8, pyN_a594, pyN_s594, pyN_g9, pyN_a595, pyN_s595, pyN_g10, pyN_a596, pyN_s596, pyN_g11, pyN_a597, pyN_s597, pyN_g19, pyN_a598, pyN_s598, pyN_g21, pyN_a599, pyN_s599, pyN_g31, pyN_a600, pyN_s600, pyN_g32, pyN_a601, pyN_s601, pyN_g38, pyN_a602, pyN_s602, pyN_g39, pyN_a603, pyN_s603, pyN_g46, pyN_a604, pyN_s604, pyN_g47, pyN_a605, pyN_s605, pyN_g48, pyN_a606, pyN_s606, pyN_g49, pyN_a607, pyN_s607, pyN_g55, pyN_a608, pyN_s608, pyN_g56, pyN_a609, pyN_s609, pyN_g57, pyN_a610, pyN_s610, pyN_g58, pyN_a611, pyN_s611, pyN_g59, pyN_a612, pyN_s612, pyN_g60, pyN_a613, pyN_s613, pyN_g74, pyN_a614, pyN_s614, pyN_g75, pyN_a615, pyN_s615, pyN_g76, pyN_a616, pyN_s616, pyN_g78, pyN_a617, pyN_s617, pyN_g79, pyN_a618, pyN_s618]
      exact ⟨V1', P⟩
    · rw [if_neg z] at P ⊢
      try simp (maxSteps := 4000000) (disch := first | assumption | omega | (simp only [pyS_I]; assumption)) only [pxL0, pxL1, pxL2, pxL3, pxL4, pxL5, pxL6, pxL7, pxL8, pxL9, pxL10, pxL11, pxL12, pxL13, pxL14, pxL15, pxL16, pxL17, pxL18, pxL19, pxL20, pxL21, pxL22, pxL23, pxL24, pxL25, pxL26, pxL27, pxL28, pxL29, pxL30, pxL31, pxL32, pxL33, pxL34, pxL35, pxL36, pxL37, pxL38, pxL39, pxL40, pxL41, pxL42, pxL43, pxL44, pxL45, pxL46, pxL47, pxL48, pxL49, pxL51, pxL57, pxL58, pxL59, pxL60, pxL61, pxL62, pxL63, pxL64, pxL65, pxL66, pxL67, pxL68, pxL69, pxL70, pxL71, pxL72, pxL73, pxL74, pxL75, pxL76, pxL77, pxL78, pxL79, pxL80, pxL81, pxL82, pxL83, pxL84, pxL85, pxL86, pxL87, pxL88, pxL89, pxL90, pxL91, pxL92, pxL93, pxL94, pxL95, pxL96, pxL97, pxL98, pxL99, pxL100, pxL101, pxL102, pxL103, pxL104, pxL105, pxL106, pxL107, pxL108, pxL109, pxL110, pxL111, pxL112, pxL113, pxL114, pxL115, pxL116, pxL117, pxL118, pxL119, pxL120, pxL121, pxL122, pxL123, pxL124, pxL125, pxL126, pxL200, pxL240, pxL287, pxL388, pxL400, pxL429, pxL431, pxL440, pxL1240, pxL1600, pxL1681, pxL12028, pxL13849, pxL14880, pxL25173, pxL26908, pxL49600, pxL65535, pxL65536, ↓reduceIte, reduceCtorEq, pxJ_add, pxJ_sub, pxJ_mul, pxJ_neg, pxD_lt_t, pxD_lt_f, pxD_le_t, pxD_le_f, pxD_eq_t, pxD_eq_f, pxJ_lt, pxJ_le, pxJ_eq, pxJ_div, px_b2, px_bs, px_rb0, px_rb1, pxW_some, Option.some.injEq, pxM_eq, pxM_ne, pyN_gI, pyN_pI, pyN_rc, pyN_g1, pyN_a588, pyN_s588, pyN_g3, pyN_a589, pyN_s589, pyN_g4, pyN_a590, pyN_s590, pyN_g5, pyN_a591, pyN_s591, pyN_g6, pyN_a592, pyN_s592, pyN_g7, pyN_a593, pyN_s593, pyN_g8, pyN_a594, pyN_s594, pyN_g9, pyN_a595, pyN_s595, pyN_g10, pyN_a596, pyN_s596, pyN_g11, pyN_a597, pyN_s597, pyN_g19, pyN_a598, pyN_s598, pyN_g21, pyN_a599, pyN_s599, pyN_g31, pyN_a600, pyN_s600, pyN_g32, pyN_a601, pyN_s601, pyN_g38, pyN_a602, pyN_s602, pyN_g39, pyN_a603, pyN_s603, pyN_g46, pyN_a604, pyN_s604, pyN_g47, pyN_a605, pyN_s605, pyN_g48, pyN_a606, pyN_s606, pyN_g49, pyN_a607, pyN_s607, pyN_g55, pyN_a608, pyN_s608, pyN_g56, pyN_a609, pyN_s609, pyN_g57, pyN_a610, pyN_s610, pyN_g58, pyN_a611, pyN_s611, pyN_g59, pyN_a612, pyN_s612, pyN_g60, pyN_a613, pyN_s613, pyN_g74, pyN_a614, pyN_s614, pyN_g75, pyN_a615, pyN_s615, pyN_g76, pyN_a616, pyN_s616, pyN_g78, pyN_a617, pyN_s617, pyN_g79, pyN_a618, pyN_s618]
      exact ⟨V1', P⟩
  · have is' := pyF is
    obtain ⟨x1, x2, x3⟩ := q2 is'
    have same := pyChg_same c is'
    have P := n_chgW (rp := rep) A b0 ok p0 V1 (fun k f a z => by unfold pyQWs at a; unfold pyQx pyQm pyQR pyQn pyQk at z; omega) (fun _ => by rw [same]; exact x2) (by rw [x3, is', Bool.or_false]; exact e44)
    rw [← e, if_pos (show (pxChg s p W.2.2.2.2.2.1).1.length ≤ 30 by rw [same]; exact okr.1)] at P
    rw [x1]
    try simp (maxSteps := 4000000) (disch := first | assumption | omega | (simp only [pyS_I]; assumption)) only [pxL0, pxL1, pxL2, pxL3, pxL4, pxL5, pxL6, pxL7, pxL8, pxL9, pxL10, pxL11, pxL12, pxL13, pxL14, pxL15, pxL16, pxL17, pxL18, pxL19, pxL20, pxL21, pxL22, pxL23, pxL24, pxL25, pxL26, pxL27, pxL28, pxL29, pxL30, pxL31, pxL32, pxL33, pxL34, pxL35, pxL36, pxL37, pxL38, pxL39, pxL40, pxL41, pxL42, pxL43, pxL44, pxL45, pxL46, pxL47, pxL48, pxL49, pxL51, pxL57, pxL58, pxL59, pxL60, pxL61, pxL62, pxL63, pxL64, pxL65, pxL66, pxL67, pxL68, pxL69, pxL70, pxL71, pxL72, pxL73, pxL74, pxL75, pxL76, pxL77, pxL78, pxL79, pxL80, pxL81, pxL82, pxL83, pxL84, pxL85, pxL86, pxL87, pxL88, pxL89, pxL90, pxL91, pxL92, pxL93, pxL94, pxL95, pxL96, pxL97, pxL98, pxL99, pxL100, pxL101, pxL102, pxL103, pxL104, pxL105, pxL106, pxL107, pxL108, pxL109, pxL110, pxL111, pxL112, pxL113, pxL114, pxL115, pxL116, pxL117, pxL118, pxL119, pxL120, pxL121, pxL122, pxL123, pxL124, pxL125, pxL126, pxL200, pxL240, pxL287, pxL388, pxL400, pxL429, pxL431, pxL440, pxL1240, pxL1600, pxL1681, pxL12028, pxL13849, pxL14880, pxL25173, pxL26908, pxL49600, pxL65535, pxL65536, ↓reduceIte, reduceCtorEq, pxJ_add, pxJ_sub, pxJ_mul, pxJ_neg, pxD_lt_t, pxD_lt_f, pxD_le_t, pxD_le_f, pxD_eq_t, pxD_eq_f, pxJ_lt, pxJ_le, pxJ_eq, pxJ_div, px_b2, px_bs, px_rb0, px_rb1, pxW_some, Option.some.injEq, pxM_eq, pxM_ne, pyN_gI, pyN_pI, pyN_rc, pyN_g1, pyN_a588, pyN_s588, pyN_g3, pyN_a589, pyN_s589, pyN_g4, pyN_a590, pyN_s590, pyN_g5, pyN_a591, pyN_s591, pyN_g6, pyN_a592, pyN_s592, pyN_g7, pyN_a593, pyN_s593, pyN_g8, pyN_a594, pyN_s594, pyN_g9, pyN_a595, pyN_s595, pyN_g10, pyN_a596, pyN_s596, pyN_g11, pyN_a597, pyN_s597, pyN_g19, pyN_a598, pyN_s598, pyN_g21, pyN_a599, pyN_s599, pyN_g31, pyN_a600, pyN_s600, pyN_g32, pyN_a601, pyN_s601, pyN_g38, pyN_a602, pyN_s602, pyN_g39, pyN_a603, pyN_s603, pyN_g46, pyN_a604, pyN_s604, pyN_g47, pyN_a605, pyN_s605, pyN_g48, pyN_a606, pyN_s606, pyN_g49, pyN_a607, pyN_s607, pyN_g55, pyN_a608, pyN_s608, pyN_g56, pyN_a609, pyN_s609, pyN_g57, pyN_a610, pyN_s610, pyN_g58, pyN_a611, pyN_s611, pyN_g59, pyN_a612, pyN_s612, pyN_g60, pyN_a613, pyN_s613, pyN_g74, pyN_a614, pyN_s614, pyN_g75, pyN_a615, pyN_s615, pyN_g76, pyN_a616, pyN_s616, pyN_g78, pyN_a617, pyN_s617, pyN_g79, pyN_a618, pyN_s618]
    exact ⟨V1', P⟩
set_option maxHeartbeats 8000000 in
theorem n_wa_114 (A : pyWs h s T c0 W F S rep) (g : W.2.2.2.2.1 = false) (b0 : 0 ≤ c0) (b1 : c0 ≤ 400) (e27 : pxM h 587 27 = wh) (w0 : 0 ≤ wh) (w3 : wh ≤ 3) (q0 : 0 ≤ q) (q1 : q < 60) (e614 : pxM h 614 q.toNat = pyB r) (ov : wh = 3 → over = !r) (p0 : 0 ≤ p) (ok : (pxAct s p).1 = true) (nz : pxP s p = 115 → pxP s (pxRep s (p + 1)).2 ≠ 48) (c : pxP s p = 114) :
    pxW (f_X12_workAct h 587 (pxJ q) (pxJ p)) fun v h' => pyV pyQwa h h' ∧ pyWR s T (c0 + 1) (pxBAct s p wh over T W F S rep) v h' := by
  have H := A.1
  have G := A.2.1
  have l60 := G.2.1.1
  have okr := A.2.2.2.2.2.2.1.2.1
  have R := A.2.2.2.2.2.2.1.1
  have IS := A.2.2.2.1.1
  have He := A.2.2.2.1.2.1
  have Fi := A.2.2.2.1.2.2.2
  have pl := (pxP_lt (s := s) (p := p) (by omega)).2
  have m := G.2.2 p p0 pl
  rw [← pxP_E p0 pl, c] at m
  have dg := pyAct_f ok (Or.inl c)
  have pl1 := (pxP_lt (s := s) (p := p + 1) (by omega)).2
  have m1 := G.2.2 (p + 1) (by omega) pl1
  rw [← pxP_E (by omega) pl1] at m1
  obtain ⟨f1, f2⟩ := Fi (pxP s (p + 1) - 48) (by omega) (by omega)
  obtain ⟨i1, i2⟩ := IS.2.2 (pxP s (p + 1) - 48) (by omega) (by omega)
  have e : pxBAct s p wh over T W F S rep = (0, pxWd W (pxBDue W.2.2.2.2.2.2 (S.2.2 (pxP s (p + 1) - 48))), F, S, rep) := by unfold pxBAct; rw [c]; rfl
  have P := n_dueRows A b0 b1 i2 i1 f2 (by omega) (by omega)
  unfold f_X12_workAct
  rw [pyN_g21 H, px_bs, pyN_a599 H p0 (by omega), px_bs, m, if_neg (show ¬ (pxJ 114 = (97 : Int32)) by decide), if_neg (show ¬ (pxJ 114 = (105 : Int32)) by decide), if_neg (show ¬ (pxJ 114 = (99 : Int32)) by decide), if_neg (show ¬ (pxJ 114 = (100 : Int32)) by decide), if_neg (show ¬ (pxJ 114 = (106 : Int32)) by decide), if_neg (show ¬ (pxJ 114 = (118 : Int32)) by decide), if_neg (show ¬ (pxJ 114 = (112 : Int32)) by decide), if_neg (show ¬ (pxJ 114 = (110 : Int32)) by decide), if_neg (show ¬ (pxJ 114 = (61 : Int32)) by decide), if_neg (show ¬ (pxJ 114 = (104 : Int32)) by decide), if_neg (show ¬ (pxJ 114 = (72 : Int32)) by decide), if_neg (show ¬ (pxJ 114 = (117 : Int32)) by decide), if_neg (show ¬ (pxJ 114 = (101 : Int32)) by decide), pyN_rc H, px_bs]
  unfold f_X12_otherWorkAct
  rw [pyN_g21 H, px_bs, pyN_a599 H p0 (by omega), px_bs, m, if_neg (show ¬ (pxJ 114 = (62 : Int32)) by decide), if_neg (show ¬ (pxJ 114 = (60 : Int32)) by decide), if_neg (show ¬ (pxJ 114 = (115 : Int32)) by decide), if_neg (show ¬ (pxJ 114 = (122 : Int32)) by decide), if_pos (show pxJ 114 = (114 : Int32) from rfl)]
  unfold f_X12_fileRow
  try simp (maxSteps := 4000000) (disch := first | assumption | omega | (simp only [pyS_I]; assumption)) only [pxL0, pxL1, pxL2, pxL3, pxL4, pxL5, pxL6, pxL7, pxL8, pxL9, pxL10, pxL11, pxL12, pxL13, pxL14, pxL15, pxL16, pxL17, pxL18, pxL19, pxL20, pxL21, pxL22, pxL23, pxL24, pxL25, pxL26, pxL27, pxL28, pxL29, pxL30, pxL31, pxL32, pxL33, pxL34, pxL35, pxL36, pxL37, pxL38, pxL39, pxL40, pxL41, pxL42, pxL43, pxL44, pxL45, pxL46, pxL47, pxL48, pxL49, pxL51, pxL57, pxL58, pxL59, pxL60, pxL61, pxL62, pxL63, pxL64, pxL65, pxL66, pxL67, pxL68, pxL69, pxL70, pxL71, pxL72, pxL73, pxL74, pxL75, pxL76, pxL77, pxL78, pxL79, pxL80, pxL81, pxL82, pxL83, pxL84, pxL85, pxL86, pxL87, pxL88, pxL89, pxL90, pxL91, pxL92, pxL93, pxL94, pxL95, pxL96, pxL97, pxL98, pxL99, pxL100, pxL101, pxL102, pxL103, pxL104, pxL105, pxL106, pxL107, pxL108, pxL109, pxL110, pxL111, pxL112, pxL113, pxL114, pxL115, pxL116, pxL117, pxL118, pxL119, pxL120, pxL121, pxL122, pxL123, pxL124, pxL125, pxL126, pxL200, pxL240, pxL287, pxL388, pxL400, pxL429, pxL431, pxL440, pxL1240, pxL1600, pxL1681, pxL12028, pxL13849, pxL14880, pxL25173, pxL26908, pxL49600, pxL65535, pxL65536, ↓reduceIte, reduceCtorEq, pxJ_add, pxJ_sub, pxJ_mul, pxJ_neg, pxD_lt_t, pxD_lt_f, pxD_le_t, pxD_le_f, pxD_eq_t, pxD_eq_f, pxJ_lt, pxJ_le, pxJ_eq, pxJ_div, px_b2, px_bs, px_rb0, px_rb1, pxW_some, Option.some.injEq, pxM_eq, pxM_ne, pyN_gI, pyN_pI, pyN_rc, pyN_g1, pyN_a588, pyN_s588, pyN_g3, pyN_a589, pyN_s589, pyN_g4, pyN_a590, pyN_s590, pyN_g5, pyN_a591, pyN_s591, pyN_g6, pyN_a592, pyN_s592, pyN_g7, pyN_a593, pyN_s593, pyN_g8, pyN_a594, pyN_s594, pyN_g9, pyN_a595, pyN_s595, pyN_g10, pyN_a596, pyN_s596, pyN_g11, pyN_a597, pyN_s597, pyN_g19, pyN_a598, pyN_s598, pyN_g21, pyN_a599, pyN_s599, pyN_g31, pyN_a600, pyN_s600, pyN_g32, pyN_a601, pyN_s601, pyN_g38, pyN_a602, pyN_s602, pyN_g39, pyN_a603, pyN_s603, pyN_g46, pyN_a604, pyN_s604, pyN_g47, pyN_a605, pyN_s605, pyN_g48, pyN_a606, pyN_s606, pyN_g49, pyN_a607, pyN_s607, pyN_g55, pyN_a608, pyN_s608, pyN_g56, pyN_a609, pyN_s609, pyN_g57, pyN_a610, pyN_s610, pyN_g58, pyN_a611, pyN_s611, pyN_g59, pyN_a612, pyN_s612, pyN_g60, pyN_a613, pyN_s613, pyN_g74, pyN_a614, pyN_s614, pyN_g75, pyN_a615, pyN_s615, pyN_g76, pyN_a616, pyN_s616, pyN_g78, pyN_a617, pyN_s617, pyN_g79, pyN_a618, pyN_s618, G.1, m, m1, f1, show 123 + 41 * (pxP s (p + 1) - 48) + 0 = 123 + 41 * (pxP s (p + 1) - 48) by omega]
  exact pxW_b2 (pxW_b2 P fun v h1 q => pxW_some.mpr q) fun v h1 q => pxW_some.mpr (by rw [e]; exact q)
set_option maxHeartbeats 8000000 in
theorem n_wa_119 (A : pyWs h s T c0 W F S rep) (g : W.2.2.2.2.1 = false) (b0 : 0 ≤ c0) (b1 : c0 ≤ 400) (e27 : pxM h 587 27 = wh) (w0 : 0 ≤ wh) (w3 : wh ≤ 3) (q0 : 0 ≤ q) (q1 : q < 60) (e614 : pxM h 614 q.toNat = pyB r) (ov : wh = 3 → over = !r) (p0 : 0 ≤ p) (ok : (pxAct s p).1 = true) (nz : pxP s p = 115 → pxP s (pxRep s (p + 1)).2 ≠ 48) (c : pxP s p = 119) :
    pxW (f_X12_workAct h 587 (pxJ q) (pxJ p)) fun v h' => pyV pyQwa h h' ∧ pyWR s T (c0 + 1) (pxBAct s p wh over T W F S rep) v h' := by
  have H := A.1
  have G := A.2.1
  have l60 := G.2.1.1
  have okr := A.2.2.2.2.2.2.1.2.1
  have R := A.2.2.2.2.2.2.1.1
  have IS := A.2.2.2.1.1
  have He := A.2.2.2.1.2.1
  have Fi := A.2.2.2.1.2.2.2
  have pl := (pxP_lt (s := s) (p := p) (by omega)).2
  have m := G.2.2 p p0 pl
  rw [← pxP_E p0 pl, c] at m
  have dg := pyAct_f ok (Or.inr c)
  have pl1 := (pxP_lt (s := s) (p := p + 1) (by omega)).2
  have m1 := G.2.2 (p + 1) (by omega) pl1
  rw [← pxP_E (by omega) pl1] at m1
  have e : pxBAct s p wh over T W F S rep = (if (S.2.2 (pxP s (p + 1) - 48)).length < 40 then (0, W, F, (S.1, S.2.1, pxUF S.2.2 (pxP s (p + 1) - 48) (S.2.2 (pxP s (p + 1) - 48) ++ [W.2.2.2.2.2.1])), rep) else (4, W, F, S, rep)) := by unfold pxBAct pxBTell; rw [c]; rfl
  have P := n_writeWork (k := pxP s (p + 1) - 48) A b0 (by omega) (by omega)
  unfold f_X12_workAct
  rw [pyN_g21 H, px_bs, pyN_a599 H p0 (by omega), px_bs, m, if_neg (show ¬ (pxJ 119 = (97 : Int32)) by decide), if_neg (show ¬ (pxJ 119 = (105 : Int32)) by decide), if_neg (show ¬ (pxJ 119 = (99 : Int32)) by decide), if_neg (show ¬ (pxJ 119 = (100 : Int32)) by decide), if_neg (show ¬ (pxJ 119 = (106 : Int32)) by decide), if_neg (show ¬ (pxJ 119 = (118 : Int32)) by decide), if_neg (show ¬ (pxJ 119 = (112 : Int32)) by decide), if_neg (show ¬ (pxJ 119 = (110 : Int32)) by decide), if_neg (show ¬ (pxJ 119 = (61 : Int32)) by decide), if_neg (show ¬ (pxJ 119 = (104 : Int32)) by decide), if_neg (show ¬ (pxJ 119 = (72 : Int32)) by decide), if_neg (show ¬ (pxJ 119 = (117 : Int32)) by decide), if_neg (show ¬ (pxJ 119 = (101 : Int32)) by decide), pyN_rc H, px_bs]
  unfold f_X12_otherWorkAct
  rw [pyN_g21 H, px_bs, pyN_a599 H p0 (by omega), px_bs, m, if_neg (show ¬ (pxJ 119 = (62 : Int32)) by decide), if_neg (show ¬ (pxJ 119 = (60 : Int32)) by decide), if_neg (show ¬ (pxJ 119 = (115 : Int32)) by decide), if_neg (show ¬ (pxJ 119 = (122 : Int32)) by decide), if_neg (show ¬ (pxJ 119 = (114 : Int32)) by decide), if_pos (show pxJ 119 = (119 : Int32) from rfl)]
  try simp (maxSteps := 4000000) (disch := first | assumption | omega | (simp only [pyS_I]; assumption)) only [pxL0, pxL1, pxL2, pxL3, pxL4, pxL5, pxL6, pxL7, pxL8, pxL9, pxL10, pxL11, pxL12, pxL13, pxL14, pxL15, pxL16, pxL17, pxL18, pxL19, pxL20, pxL21, pxL22, pxL23, pxL24, pxL25, pxL26, pxL27, pxL28, pxL29, pxL30, pxL31, pxL32, pxL33, pxL34, pxL35, pxL36, pxL37, pxL38, pxL39, pxL40, pxL41, pxL42, pxL43, pxL44, pxL45, pxL46, pxL47, pxL48, pxL49, pxL51, pxL57, pxL58, pxL59, pxL60, pxL61, pxL62, pxL63, pxL64, pxL65, pxL66, pxL67, pxL68, pxL69, pxL70, pxL71, pxL72, pxL73, pxL74, pxL75, pxL76, pxL77, pxL78, pxL79, pxL80, pxL81, pxL82, pxL83, pxL84, pxL85, pxL86, pxL87, pxL88, pxL89, pxL90, pxL91, pxL92, pxL93, pxL94, pxL95, pxL96, pxL97, pxL98, pxL99, pxL100, pxL101, pxL102, pxL103, pxL104, pxL105, pxL106, pxL107, pxL108, pxL109, pxL110, pxL111, pxL112, pxL113, pxL114, pxL115, pxL116, pxL117, pxL118, pxL119, pxL120, pxL121, pxL122, pxL123, pxL124, pxL125, pxL126, pxL200, pxL240, pxL287, pxL388, pxL400, pxL429, pxL431, pxL440, pxL1240, pxL1600, pxL1681, pxL12028, pxL13849, pxL14880, pxL25173, pxL26908, pxL49600, pxL65535, pxL65536, ↓reduceIte, reduceCtorEq, pxJ_add, pxJ_sub, pxJ_mul, pxJ_neg, pxD_lt_t, pxD_lt_f, pxD_le_t, pxD_le_f, pxD_eq_t, pxD_eq_f, pxJ_lt, pxJ_le, pxJ_eq, pxJ_div, px_b2, px_bs, px_rb0, px_rb1, pxW_some, Option.some.injEq, pxM_eq, pxM_ne, pyN_gI, pyN_pI, pyN_rc, pyN_g1, pyN_a588, pyN_s588, pyN_g3, pyN_a589, pyN_s589, pyN_g4, pyN_a590, pyN_s590, pyN_g5, pyN_a591, pyN_s591, pyN_g6, pyN_a592, pyN_s592, pyN_g7, pyN_a593, pyN_s593, pyN_g8, pyN_a594, pyN_s594, pyN_g9, pyN_a595, pyN_s595, pyN_g10, pyN_a596, pyN_s596, pyN_g11, pyN_a597, pyN_s597, pyN_g19, pyN_a598, pyN_s598, pyN_g21, pyN_a599, pyN_s599, pyN_g31, pyN_a600, pyN_s600, pyN_g32, pyN_a601, pyN_s601, pyN_g38, pyN_a602, pyN_s602, pyN_g39, pyN_a603, pyN_s603, pyN_g46, pyN_a604, pyN_s604, pyN_g47, pyN_a605, pyN_s605, pyN_g48, pyN_a606, pyN_s606, pyN_g49, pyN_a607, pyN_s607, pyN_g55, pyN_a608, pyN_s608, pyN_g56, pyN_a609, pyN_s609, pyN_g57, pyN_a610, pyN_s610, pyN_g58, pyN_a611, pyN_s611, pyN_g59, pyN_a612, pyN_s612, pyN_g60, pyN_a613, pyN_s613, pyN_g74, pyN_a614, pyN_s614, pyN_g75, pyN_a615, pyN_s615, pyN_g76, pyN_a616, pyN_s616, pyN_g78, pyN_a617, pyN_s617, pyN_g79, pyN_a618, pyN_s618, G.1, m, m1]
  exact pxW_b2 (pxW_b2 P fun v h1 q => pxW_some.mpr q) fun v h1 q => pxW_some.mpr (by rw [e]; exact q)
set_option maxHeartbeats 8000000 in
theorem n_wa_107 (A : pyWs h s T c0 W F S rep) (g : W.2.2.2.2.1 = false) (b0 : 0 ≤ c0) (b1 : c0 ≤ 400) (e27 : pxM h 587 27 = wh) (w0 : 0 ≤ wh) (w3 : wh ≤ 3) (q0 : 0 ≤ q) (q1 : q < 60) (e614 : pxM h 614 q.toNat = pyB r) (ov : wh = 3 → over = !r) (p0 : 0 ≤ p) (ok : (pxAct s p).1 = true) (nz : pxP s p = 115 → pxP s (pxRep s (p + 1)).2 ≠ 48) (c : pxP s p = 107) :
    pxW (f_X12_workAct h 587 (pxJ q) (pxJ p)) fun v h' => pyV pyQwa h h' ∧ pyWR s T (c0 + 1) (pxBAct s p wh over T W F S rep) v h' := by
  have H := A.1
  have G := A.2.1
  have l60 := G.2.1.1
  have okr := A.2.2.2.2.2.2.1.2.1
  have R := A.2.2.2.2.2.2.1.1
  have IS := A.2.2.2.1.1
  have He := A.2.2.2.1.2.1
  have Fi := A.2.2.2.1.2.2.2
  have pl := (pxP_lt (s := s) (p := p) (by omega)).2
  have m := G.2.2 p p0 pl
  rw [← pxP_E p0 pl, c] at m
  have dg := pyAct_k ok c
  have pl1 := (pxP_lt (s := s) (p := p + 1) (by omega)).2
  have m1 := G.2.2 (p + 1) (by omega) pl1
  rw [← pxP_E (by omega) pl1] at m1
  have e : pxBAct s p wh over T W F S rep = (0, W, (F.1, (fun j => if j = pxP s (p + 1) - 97 then W.1 else F.2.1 j), F.2.2), S, rep) := by unfold pxBAct pxBTell; rw [c]; rfl
  have w67 := A.2.2.2.2.2.2.1.2.2.2.2.1
  have lo := pxM_lo h 587 67
  have hi := pxM_hi h 587 67
  rw [w67] at lo hi
  unfold f_X12_workAct
  rw [pyN_g21 H, px_bs, pyN_a599 H p0 (by omega), px_bs, m, if_neg (show ¬ (pxJ 107 = (97 : Int32)) by decide), if_neg (show ¬ (pxJ 107 = (105 : Int32)) by decide), if_neg (show ¬ (pxJ 107 = (99 : Int32)) by decide), if_neg (show ¬ (pxJ 107 = (100 : Int32)) by decide), if_neg (show ¬ (pxJ 107 = (106 : Int32)) by decide), if_neg (show ¬ (pxJ 107 = (118 : Int32)) by decide), if_neg (show ¬ (pxJ 107 = (112 : Int32)) by decide), if_neg (show ¬ (pxJ 107 = (110 : Int32)) by decide), if_neg (show ¬ (pxJ 107 = (61 : Int32)) by decide), if_neg (show ¬ (pxJ 107 = (104 : Int32)) by decide), if_neg (show ¬ (pxJ 107 = (72 : Int32)) by decide), if_neg (show ¬ (pxJ 107 = (117 : Int32)) by decide), if_neg (show ¬ (pxJ 107 = (101 : Int32)) by decide), pyN_rc H, px_bs]
  unfold f_X12_otherWorkAct
  rw [pyN_g21 H, px_bs, pyN_a599 H p0 (by omega), px_bs, m, if_neg (show ¬ (pxJ 107 = (62 : Int32)) by decide), if_neg (show ¬ (pxJ 107 = (60 : Int32)) by decide), if_neg (show ¬ (pxJ 107 = (115 : Int32)) by decide), if_neg (show ¬ (pxJ 107 = (122 : Int32)) by decide), if_neg (show ¬ (pxJ 107 = (114 : Int32)) by decide), if_neg (show ¬ (pxJ 107 = (119 : Int32)) by decide), if_pos (show pxJ 107 = (107 : Int32) from rfl)]
  try simp (maxSteps := 4000000) (disch := first | assumption | omega | (simp only [pyS_I]; assumption)) only [pxL0, pxL1, pxL2, pxL3, pxL4, pxL5, pxL6, pxL7, pxL8, pxL9, pxL10, pxL11, pxL12, pxL13, pxL14, pxL15, pxL16, pxL17, pxL18, pxL19, pxL20, pxL21, pxL22, pxL23, pxL24, pxL25, pxL26, pxL27, pxL28, pxL29, pxL30, pxL31, pxL32, pxL33, pxL34, pxL35, pxL36, pxL37, pxL38, pxL39, pxL40, pxL41, pxL42, pxL43, pxL44, pxL45, pxL46, pxL47, pxL48, pxL49, pxL51, pxL57, pxL58, pxL59, pxL60, pxL61, pxL62, pxL63, pxL64, pxL65, pxL66, pxL67, pxL68, pxL69, pxL70, pxL71, pxL72, pxL73, pxL74, pxL75, pxL76, pxL77, pxL78, pxL79, pxL80, pxL81, pxL82, pxL83, pxL84, pxL85, pxL86, pxL87, pxL88, pxL89, pxL90, pxL91, pxL92, pxL93, pxL94, pxL95, pxL96, pxL97, pxL98, pxL99, pxL100, pxL101, pxL102, pxL103, pxL104, pxL105, pxL106, pxL107, pxL108, pxL109, pxL110, pxL111, pxL112, pxL113, pxL114, pxL115, pxL116, pxL117, pxL118, pxL119, pxL120, pxL121, pxL122, pxL123, pxL124, pxL125, pxL126, pxL200, pxL240, pxL287, pxL388, pxL400, pxL429, pxL431, pxL440, pxL1240, pxL1600, pxL1681, pxL12028, pxL13849, pxL14880, pxL25173, pxL26908, pxL49600, pxL65535, pxL65536, ↓reduceIte, reduceCtorEq, pxJ_add, pxJ_sub, pxJ_mul, pxJ_neg, pxD_lt_t, pxD_lt_f, pxD_le_t, pxD_le_f, pxD_eq_t, pxD_eq_f, pxJ_lt, pxJ_le, pxJ_eq, pxJ_div, px_b2, px_bs, px_rb0, px_rb1, pxW_some, Option.some.injEq, pxM_eq, pxM_ne, pyN_gI, pyN_pI, pyN_rc, pyN_g1, pyN_a588, pyN_s588, pyN_g3, pyN_a589, pyN_s589, pyN_g4, pyN_a590, pyN_s590, pyN_g5, pyN_a591, pyN_s591, pyN_g6, pyN_a592, pyN_s592, pyN_g7, pyN_a593, pyN_s593, pyN_g8, pyN_a594, pyN_s594, pyN_g9, pyN_a595, pyN_s595, pyN_g10, pyN_a596, pyN_s596, pyN_g11, pyN_a597, pyN_s597, pyN_g19, pyN_a598, pyN_s598, pyN_g21, pyN_a599, pyN_s599, pyN_g31, pyN_a600, pyN_s600, pyN_g32, pyN_a601, pyN_s601, pyN_g38, pyN_a602, pyN_s602, pyN_g39, pyN_a603, pyN_s603, pyN_g46, pyN_a604, pyN_s604, pyN_g47, pyN_a605, pyN_s605, pyN_g48, pyN_a606, pyN_s606, pyN_g49, pyN_a607, pyN_s607, pyN_g55, pyN_a608, pyN_s608, pyN_g56, pyN_a609, pyN_s609, pyN_g57, pyN_a610, pyN_s610, pyN_g58, pyN_a611, pyN_s611, pyN_g59, pyN_a612, pyN_s612, pyN_g60, pyN_a613, pyN_s613, pyN_g74, pyN_a614, pyN_s614, pyN_g75, pyN_a615, pyN_s615, pyN_g76, pyN_a616, pyN_s616, pyN_g78, pyN_a617, pyN_s617, pyN_g79, pyN_a618, pyN_s618, G.1, m, m1, w67]
  have V : pyV (fun k f => k = 596 ∧ (f : Int) = pxP s (p + 1) - 97) h (jw_setI h 596 (pxP s (p + 1) - 97).toNat (pxJ W.1)) := pyV.rfl.set ⟨rfl, by omega⟩
  obtain ⟨-, -, L, Y, N, M, Wf, D, e17, e44, B⟩ := A
  have M' : pyMk (jw_setI h 596 (pxP s (p + 1) - 97).toNat (pxJ W.1)) (fun j => if j = pxP s (p + 1) - 97 then W.1 else F.2.1 j) F.2.2 (pyLvs T W F) := by
    refine M.mark (by unfold pyLvs; rw [g, if_neg (show ¬ (false = true) by decide)]; exact List.mem_append_right _ (List.mem_append_left _ (List.mem_singleton.mpr rfl))) (fun k k0 k5 => ?_)
    by_cases d : k = pxP s (p + 1) - 97
    · rw [if_pos d, d, pxM_eq lo hi]
    · rw [if_neg d, V.m (by omega)]
  refine ⟨V.mono (fun k f z => by unfold pyQwa; omega), ?_⟩
  rw [e]
  exact ⟨rfl, py_0.1, py_0.2, fun _ => ⟨H, G.keep V (by omega) (fun f _ => by omega), L.keep V (fun f _ => by omega) (fun f _ => by omega) (by omega), Y.keep V (fun k f z => by omega), N.keep V (fun k f z => by omega), M', Wf.keep V (fun k f z => by omega), D.keep V (by omega) (fun k f z => by omega), by rw [V.m (by omega)]; exact e17, by rw [V.m (by omega)]; exact e44, B⟩⟩
theorem n_workAct (A : pyWs h s T c0 W F S rep) (g : W.2.2.2.2.1 = false) (b0 : 0 ≤ c0) (b1 : c0 ≤ 400) (e27 : pxM h 587 27 = wh) (w0 : 0 ≤ wh) (w3 : wh ≤ 3) (q0 : 0 ≤ q) (q1 : q < 60) (e614 : pxM h 614 q.toNat = pyB r) (ov : wh = 3 → over = !r) (p0 : 0 ≤ p) (ok : (pxAct s p).1 = true) (nz : pxP s p = 115 → pxP s (pxRep s (p + 1)).2 ≠ 48) (ns : ¬ (pxP s p = 58 ∨ pxP s p = 98 ∨ pxP s p = 84 ∨ pxP s p = 113 ∨ pxP s p = 78)) (nb : ¬ (pxP s p = 108 ∨ pxP s p = 111 ∨ pxP s p = 79 ∨ pxP s p = 109 ∨ pxP s p = 116)) :
    pxW (f_X12_workAct h 587 (pxJ q) (pxJ p)) fun v h' => pyV pyQwa h h' ∧ pyWR s T (c0 + 1) (pxBAct s p wh over T W F S rep) v h' := by
  have cs := pyAct_cs ok ns
  by_cases c97 : pxP s p = 97
  · exact n_wa_97 A g b0 b1 e27 w0 w3 q0 q1 e614 ov p0 ok nz c97
  by_cases c105 : pxP s p = 105
  · exact n_wa_105 A g b0 b1 e27 w0 w3 q0 q1 e614 ov p0 ok nz c105
  by_cases c99 : pxP s p = 99
  · exact n_wa_99 A g b0 b1 e27 w0 w3 q0 q1 e614 ov p0 ok nz c99
  by_cases c100 : pxP s p = 100
  · exact n_wa_100 A g b0 b1 e27 w0 w3 q0 q1 e614 ov p0 ok nz c100
  by_cases c106 : pxP s p = 106
  · exact n_wa_106 A g b0 b1 e27 w0 w3 q0 q1 e614 ov p0 ok nz c106
  by_cases c118 : pxP s p = 118
  · exact n_wa_118 A g b0 b1 e27 w0 w3 q0 q1 e614 ov p0 ok nz c118
  by_cases c112 : pxP s p = 112
  · exact n_wa_112 A g b0 b1 e27 w0 w3 q0 q1 e614 ov p0 ok nz c112
  by_cases c110 : pxP s p = 110
  · exact n_wa_110 A g b0 b1 e27 w0 w3 q0 q1 e614 ov p0 ok nz c110
  by_cases c61 : pxP s p = 61
  · exact n_wa_61 A g b0 b1 e27 w0 w3 q0 q1 e614 ov p0 ok nz c61
  by_cases c104 : pxP s p = 104
  · exact n_wa_104 A g b0 b1 e27 w0 w3 q0 q1 e614 ov p0 ok nz c104
  by_cases c72 : pxP s p = 72
  · exact n_wa_72 A g b0 b1 e27 w0 w3 q0 q1 e614 ov p0 ok nz c72
  by_cases c117 : pxP s p = 117
  · exact n_wa_117 A g b0 b1 e27 w0 w3 q0 q1 e614 ov p0 ok nz c117
  by_cases c101 : pxP s p = 101
  · exact n_wa_101 A g b0 b1 e27 w0 w3 q0 q1 e614 ov p0 ok nz c101
  by_cases c62 : pxP s p = 62
  · exact n_wa_62 A g b0 b1 e27 w0 w3 q0 q1 e614 ov p0 ok nz c62
  by_cases c60 : pxP s p = 60
  · exact n_wa_60 A g b0 b1 e27 w0 w3 q0 q1 e614 ov p0 ok nz c60
  by_cases c122 : pxP s p = 122
  · exact n_wa_122 A g b0 b1 e27 w0 w3 q0 q1 e614 ov p0 ok nz c122
  by_cases c115 : pxP s p = 115
  · exact n_wa_115 A g b0 b1 e27 w0 w3 q0 q1 e614 ov p0 ok nz c115
  by_cases c114 : pxP s p = 114
  · exact n_wa_114 A g b0 b1 e27 w0 w3 q0 q1 e614 ov p0 ok nz c114
  by_cases c119 : pxP s p = 119
  · exact n_wa_119 A g b0 b1 e27 w0 w3 q0 q1 e614 ov p0 ok nz c119
  by_cases c107 : pxP s p = 107
  · exact n_wa_107 A g b0 b1 e27 w0 w3 q0 q1 e614 ov p0 ok nz c107
  rcases cs with z | z | z | z | z | z | z | z | z | z | z | z | z | z | z | z | z | z | z | z | z | z | z | z | z
  · exact absurd z c97
  · exact absurd z c105
  · exact absurd z c99
  · exact absurd z c100
  · exact absurd z c106
  · exact absurd z c118
  · exact (nb (by rw [z]; decide)).elim
  · exact absurd z c112
  · exact absurd z c110
  · exact absurd z c61
  · exact absurd z c104
  · exact absurd z c72
  · exact absurd z c117
  · exact absurd z c101
  · exact absurd z c62
  · exact absurd z c60
  · exact (nb (by rw [z]; decide)).elim
  · exact (nb (by rw [z]; decide)).elim
  · exact (nb (by rw [z]; decide)).elim
  · exact (nb (by rw [z]; decide)).elim
  · exact absurd z c115
  · exact absurd z c122
  · exact absurd z c114
  · exact absurd z c119
  · exact absurd z c107
end
