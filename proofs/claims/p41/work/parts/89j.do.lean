/-! orders over the whole: an act is done -/
def pxDoT (r : Int × pxTx) (S : pxSto) : Int × pxTx × pxSto := (r.1, r.2, S)
def pxDo1 (s : List Int) (p f l : Int) (T : pxTx) (S : pxSto) : Int × pxTx × pxSto :=
  if pxP s p = 97 then pxDoT (pxSpBring false (l + 1) f l (pxTold s 61 (p + 1)) T) S
  else if pxP s p = 105 then pxDoT (pxSpBring false f f l (pxTold s 61 (p + 1)) T) S
  else if pxP s p = 99 then pxDoT (pxSpBring true f f l (pxTold s 61 (p + 1)) T) S
  else if pxP s p = 117 then (if S.1 = [] then (5, T, S) else pxDoT (pxSpBring false (l + 1) f l S.1 T) S)
  else if pxP s p = 114 then pxDoT (pxSpRead f l (S.2.2 (pxP s (p + 1) - 48)) T) S
  else if pxP s p = 101 then pxSpExch f l T S
  else if pxP s p = 100 then (0, pxSpDel f l T, S)
  else if pxP s p = 106 then pxDoT (pxSpJoin f l T) S
  else if pxP s p = 118 then pxDoT (pxSpPart (pxNumV s (p + 1)) f l T) S
  else if pxP s p = 108 then (0, pxSpUniq f l T, S)
  else if pxP s p = 109 then pxDoT (pxSpMove f l (pxLoc s (p + 1) T) T) S
  else if pxP s p = 116 then pxDoT (pxSpCopy f l (pxLoc s (p + 1) T) T) S
  else if pxP s p = 111 then (0, pxSpSort (pxNumV s (p + 1)) false f l T, S)
  else if pxP s p = 79 then (0, pxSpSort (pxNumV s (p + 1)) true f l T, S)
  else pxSpTell s p f l T S
/-- an act that changes row by row -/
def pxIsChg (c : Int) : Prop := c = 62 ∨ c = 115 ∨ c = 122 ∨ c = 60
def pxDoC (s : List Int) (p f l : Int) (T : pxTx) (S : pxSto) (rep : Bool) : (Int × pxTx × pxSto) × Bool :=
  ((if (pxChgs s p (l + 1 - f).toNat f (pxRs T.1) rep).1 = true then 0 else 4, (pxReR T.1 (pxChgs s p (l + 1 - f).toNat f (pxRs T.1) rep).2.1, T.2.1, l, T.2.2.2), S), (pxChgs s p (l + 1 - f).toNat f (pxRs T.1) rep).2.2)
/-- an act: its reason, the text and the stores then, whether something was replaced -/
def pxDo (s : List Int) (p f l : Int) (T : pxTx) (S : pxSto) (rep : Bool) : (Int × pxTx × pxSto) × Bool :=
  if pxP s p = 62 ∨ pxP s p = 115 ∨ pxP s p = 122 ∨ pxP s p = 60 then pxDoC s p f l T S rep else (pxDo1 s p f l T S, rep)
/-- what an act may change -/
def pxQA : Nat → Nat → Prop := fun k f => (255 ≤ k ∧ k ≤ 281) ∨ (k = 531 ∧ 5 ≤ f) ∨ (532 ≤ k ∧ k ≤ 535) ∨ (k = 536 ∧ 3 ≤ f) ∨ k = 537 ∨ (560 ≤ k ∧ k ≤ 569)
/-- what is there beside text and stores -/
def pxAux (h : jw_H) (rep : Bool) : Prop := pxWF h ∧ pxMS h ∧ pxHS h ∧ (∃ rs, pxIR h 560 60 rs) ∧ pxSX h 563 ∧ pxM h 536 5 = if rep = true then 1 else 0
theorem pxAux.fr {P : Nat → Nat → Prop} {h h' : jw_H} {rep : Bool} (A : pxAux h rep) (F : pxF P h h') (hP : ∀ k f, (k = 559 ∧ f < 11) ∨ (531 ≤ k ∧ k ≤ 531 ∧ f < 5) ∨ (k = 536 ∧ (f < 3 ∨ f = 5)) ∨ (560 ≤ k ∧ k ≤ 568) → ¬ P k f) : pxAux h' rep := by
  obtain ⟨a1, a2, a3, ⟨rs, a4⟩, a5, a6⟩ := A
  exact ⟨a1.fr F (fun f z => hP _ _ (by omega)), a2.fr F (fun f z => hP _ _ (by omega)), a3.fr F (fun f z => hP _ _ (by omega)), ⟨rs, a4.fr F (fun k f _ _ => hP _ _ (by omega))⟩, a5.fr F (fun k f _ _ => hP _ _ (by omega)), by rw [F.m (hP _ _ (by omega))]; exact a6⟩
def pxDR (h : jw_H) (r : Int × pxTx × pxSto) (rep : Bool) (S : pxSto) (q : Int32) (h' : jw_H) : Prop := pxF pxQA h h' ∧ q = pxJ r.1 ∧ pxTR r S h' ∧ (∃ rep', pxAux h' rep' ∧ (r.1 = 0 → rep' = rep))
theorem pxDR.mkT {h h' : jw_H} {r : Int × pxTx × pxSto} {rep : Bool} {S : pxSto} {q : Int32} {P : Nat → Nat → Prop} (A : pxAux h rep) (F : pxF P h h') (hP : ∀ k f, P k f → 255 ≤ k ∧ k ≤ 281) (e : q = pxJ r.1) (R : pxTR r S h') : pxDR h r rep S q h' :=
  ⟨F.mono (fun k f z => by have := hP k f z; unfold pxQA; omega), e, R, rep, A.fr F (fun k f z y => by have := hP k f y; omega), fun _ => rfl⟩
/-- a range that an act may have -/
def pxRgOk (c f l n : Int) : Prop := (1 ≤ f ∧ f ≤ l ∧ l ≤ n) ∨ (f = 0 ∧ l = 0 ∧ (c = 97 ∨ c = 114 ∨ c = 117)) ∨ (f = 1 ∧ l = n ∧ (c = 103 ∨ c = 71 ∨ c = 119))
section
variable {h : jw_H} {s : List Int} {T : pxTx} {S : pxSto} {f l p : Int} {oo : Nat} {rep : Bool}
theorem px_doA {ρ : Int} (t5 : (jw_t h oo).1 = 5) (f3 : pxM h oo 3 = ρ) (c : ρ = 97 ∨ ρ = 105 ∨ ρ = 99) : f_X10_doOne h 559 (some oo) = g_X10_doOne_b309 h 559 (some oo) := by
  unfold f_X10_doOne
  rw [px_gI t5, f3]
  rcases c with rfl | rfl | rfl <;> rfl
theorem px_doC {ρ : Int} (t5 : (jw_t h oo).1 = 5) (f3 : pxM h oo 3 = ρ) (c : ρ = 62 ∨ ρ = 115 ∨ ρ = 122 ∨ ρ = 60) : f_X10_doOne h 559 (some oo) = g_X10_doOne_b272 h 559 (some oo) := by
  unfold f_X10_doOne
  rw [px_gI t5, f3]
  rcases c with rfl | rfl | rfl | rfl <;> rfl
theorem px_doT {ρ : Int} (t5 : (jw_t h oo).1 = 5) (f3 : pxM h oo 3 = ρ) (c : ρ = 112 ∨ ρ = 110 ∨ ρ = 61 ∨ ρ = 104 ∨ ρ = 72 ∨ ρ = 107 ∨ ρ = 119) : f_X10_doOne h 559 (some oo) = g_X10_doOne_b502 h 559 (some oo) := by
  unfold f_X10_doOne
  rw [px_gI t5, f3]
  rcases c with rfl | rfl | rfl | rfl | rfl | rfl | rfl <;> rfl
theorem px_doO {ρ : Int} (t5 : (jw_t h oo).1 = 5) (f3 : pxM h oo 3 = ρ) (c : ρ = 111 ∨ ρ = 79) : f_X10_doOne h 559 (some oo) = g_X10_doOne_b479 h 559 (some oo) := by
  unfold f_X10_doOne
  rw [px_gI t5, f3]
  rcases c with rfl | rfl <;> rfl
theorem px_doE (t5 : (jw_t h oo).1 = 5) (f3 : pxM h oo 3 = 101) : f_X10_doOne h 559 (some oo) = ((jw_rc h 10 (some 559)).bind fun a59 => jw_b2 (f_X10_exchange h a59) fun w61 h60 => some (w61, h60)) := by
  unfold f_X10_doOne
  rw [px_gI t5, f3]
  rfl
theorem px_doD (t5 : (jw_t h oo).1 = 5) (f3 : pxM h oo 3 = 100) : f_X10_doOne h 559 (some oo) = ((jw_gR h 10 (some 559) 1).bind fun v43 => (jw_gI h 10 (some 559) 12).bind fun v44 => (jw_gI h 10 (some 559) 13).bind fun v45 => (jw_gI h 10 (some 559) 12).bind fun v46 => (jw_rc h 9 v43).bind fun a47 => jw_b2 (f_X9_cut h a47 v44 ((v45 - v46) + (1 : Int32))) fun w49 h48 => (jw_gR h48 10 (some 559) 1).bind fun v50 => (jw_gI h48 10 (some 559) 12).bind fun v51 => (jw_gR h48 10 (some 559) 1).bind fun v52 => (jw_gR h48 9 v52 0).bind fun v53 => (jw_gI h48 7 v53 2).bind fun v54 => jw_b2 (f_J9_min_7cf53 h48 v51 v54) fun w56 h55 => (jw_pI h55 9 v50 3 w56).bind fun h57 => some ((0 : Int32), h57)) := by
  unfold f_X10_doOne
  rw [px_gI t5, f3]
  rfl
theorem px_doJ (t5 : (jw_t h oo).1 = 5) (f3 : pxM h oo 3 = 106) : f_X10_doOne h 559 (some oo) = ((jw_rc h 10 (some 559)).bind fun a67 => jw_b2 (f_X10_join h a67) fun w69 h68 => some (w69, h68)) := by
  unfold f_X10_doOne
  rw [px_gI t5, f3]
  rfl
theorem px_doL (t5 : (jw_t h oo).1 = 5) (f3 : pxM h oo 3 = 108) : f_X10_doOne h 559 (some oo) = ((jw_rc h 10 (some 559)).bind fun a72 => jw_b2 (f_X10_leaveOutSame h a72) fun w74 h73 => some (w74, h73)) := by
  unfold f_X10_doOne
  rw [px_gI t5, f3]
  rfl
theorem px_doM (t5 : (jw_t h oo).1 = 5) (f3 : pxM h oo 3 = 109) : f_X10_doOne h 559 (some oo) = ((jw_gR h 5 (some oo) 2).bind fun v76 => (jw_rc h 10 (some 559)).bind fun a77 => jw_b2 (f_X10_locate h a77 v76) fun w79 h78 => (jw_rc h78 10 (some 559)).bind fun a80 => jw_b2 (f_X10_move h78 a80 w79) fun w82 h81 => some (w82, h81)) := by
  unfold f_X10_doOne
  rw [px_gI t5, f3]
  rfl
theorem px_doR (t5 : (jw_t h oo).1 = 5) (f3 : pxM h oo 3 = 114) : f_X10_doOne h 559 (some oo) = ((jw_gR h 10 (some 559) 2).bind fun v88 => (jw_gI h 5 (some oo) 5).bind fun v89 => (jw_rc h 8 v88).bind fun a90 => jw_b2 (f_X8_file h a90 v89) fun w92 h91 => (jw_rc h91 10 (some 559)).bind fun a93 => jw_b2 (f_X10_readFile h91 a93 w92) fun w95 h94 => some (w95, h94)) := by
  unfold f_X10_doOne
  rw [px_gI t5, f3]
  rfl
theorem px_doTo (t5 : (jw_t h oo).1 = 5) (f3 : pxM h oo 3 = 116) : f_X10_doOne h 559 (some oo) = ((jw_gR h 5 (some oo) 2).bind fun v98 => (jw_rc h 10 (some 559)).bind fun a99 => jw_b2 (f_X10_locate h a99 v98) fun w101 h100 => (jw_rc h100 10 (some 559)).bind fun a102 => jw_b2 (f_X10_copyLines h100 a102 w101) fun w104 h103 => some (w104, h103)) := by
  unfold f_X10_doOne
  rw [px_gI t5, f3]
  rfl
theorem px_doU (t5 : (jw_t h oo).1 = 5) (f3 : pxM h oo 3 = 117) : f_X10_doOne h 559 (some oo) = ((jw_gR h 10 (some 559) 2).bind fun v106 => (jw_gR h 8 v106 0).bind fun v107 => (jw_gI h 7 v107 2).bind fun v108 => if v108 = 0 then (g_X10_doOne_b364 h (5 : Int32)) else ((jw_gR h 10 (some 559) 2).bind fun v110 => (jw_gR h 8 v110 0).bind fun v111 => (jw_rc h 10 (some 559)).bind fun a112 => jw_b2 (f_X10_bring h a112 (117 : Int32) v111) fun w114 h113 => g_X10_doOne_b364 h113 w114)) := by
  unfold f_X10_doOne
  rw [px_gI t5, f3]
  rfl
theorem px_doV (t5 : (jw_t h oo).1 = 5) (f3 : pxM h oo 3 = 118) : f_X10_doOne h 559 (some oo) = ((jw_gI h 5 (some oo) 5).bind fun v116 => (jw_rc h 10 (some 559)).bind fun a117 => jw_b2 (f_X10_part h a117 v116) fun w119 h118 => some (w119, h118)) := by
  unfold f_X10_doOne
  rw [px_gI t5, f3]
  rfl
theorem s_do_chg {i : Nat} {b : Nat} (c : pxP s p = 62 ∨ pxP s p = 115 ∨ pxP s p = 122 ∨ pxP s p = 60) (H : pxCO h b s i p) (A : pxAux h rep) (Rn : pxRn h f l) (I : pxIX h T) (Y : pxIY h S) (f1 : 1 ≤ f) (fl : f ≤ l) (l1 : l ≤ T.1.length) :
    pxW (f_X10_doOne h 559 (some (12 + 4 * i))) (pxDR h (pxDoC s p f l T S rep).1 (pxDoC s p f l T S rep).2 S) := by
  have l40 := pxIT.len I
  obtain ⟨hb, hi, G, Ak, -, -, p0, p1⟩ := id H
  obtain ⟨-, t5, -⟩ := G.1.2.2.2.2.2.2.2 i hi
  obtain ⟨W, M, HS, Z, X, rp⟩ := id A
  have w0 := W.1
  have w1 := W.2.2.1
  have w5 := W.2.2.2.2.2.2.1
  have t9 := I.1.1
  have r0 := I.1.2.1
  have th := HS.1
  obtain ⟨rf, rl⟩ := id Rn
  have rlen : ((pxRs T.1).length : Int) = T.1.length := by rw [pxRs_len]
  rw [px_doC t5 Ak.1 c]
  obtain ⟨z1, z2⟩ := s_X2_change (ρ := 256) (rs := pxRs T.1) (x := f) (y := l) (by omega) (by omega) c f1 (by omega) (by omega) H HS M I.2.1 rp
  have clen : ∀ (m : Nat) (x : Int) (rs : List (List Int)) (rep : Bool), (pxChgs s p m x rs rep).2.1.length = rs.length := by
    intro m
    induction m with
    | zero => intro x rs rep; rfl
    | succ m ih =>
      intro x rs rep
      unfold pxChgs
      by_cases d : 30 < (pxChg s p (pxRw rs x)).1.length
      · rw [if_pos d]
      · rw [if_neg d, ih, pxSet_len]
  have cl := clen (l + 1 - f).toNat f (pxRs T.1) rep
  rw [pxRs_len] at cl
  have go : ∀ {h1 : jw_H} {v : Int} {rs' : List (List Int)}, f_X2_change h 536 (some (12 + 4 * i)) (some 256) (pxJ f) (pxJ l) = some (pxJ v, h1) → pxF (pxQr 256) h h1 → pxIR h1 256 40 rs' → rs'.length = T.1.length → ∃ h2, g_X10_doOne_b272 h 559 (some (12 + 4 * i)) = some (pxJ v, h2) ∧ pxF (pxQr 256) h h1 ∧ pxF (fun k f => k = 255 ∧ f = 3) h1 h2 ∧ pxIX h2 (pxReR T.1 rs', T.2.1, l, T.2.2.2) ∧ pxIY h2 S := by
    intro h1 v rs' e F R' hl
    have W1 := W.fr F (fun f z => by unfold pxQr pxQy; omega)
    have w01 := W1.1
    have w11 := W1.2.2.1
    have rl1 : pxM h1 559 13 = l := by rw [F.m (by unfold pxQr pxQy; omega)]; exact rl
    have t91 : (jw_t h1 255).1 = 9 := by rw [F.t]; exact t9
    have eR : pxRs (pxReR T.1 rs') = rs' := by
      unfold pxRs pxReR
      rw [List.map_snd_zip]
      rw [List.length_map]; omega
    have I1 : pxIT h1 255 (pxReR T.1 rs') T.2.1 T.2.2.1 T.2.2.2 := by
      refine pxIT.rows I F (fun k f z => by unfold pxQr pxQy; omega) (by rw [eR]; exact R') (by unfold pxReR; rw [List.length_zip, List.length_map]; omega) (fun x x1 x2 => ?_)
      unfold pxId pxAt pxG pxReR
      rw [List.getD_eq_getElem?_getD, List.getD_eq_getElem?_getD, List.getElem?_eq_getElem (show (x - 1).toNat < T.1.length by omega), List.getElem?_eq_getElem (show (x - 1).toNat < ((T.1.map (·.1)).zip rs').length by rw [List.length_zip, List.length_map]; omega)]
      simp
    have Fn : pxF (fun k f => k = 255 ∧ f = 3) h1 (jw_setI h1 255 3 (pxJ l)) := pxF.setI ⟨rfl, rfl⟩
    refine ⟨jw_setI h1 255 3 (pxJ l), ?_, F, Fn, pxIT.now3 I1 (by omega) (by omega), (pxIS.fr Y F (fun k f _ _ => by unfold pxQr pxQy; omega)).fr Fn (fun k f _ _ => by omega)⟩
    unfold g_X10_doOne_b272
    clear z1 z2 clen H G Ak
    simp (maxSteps := 4000000) (disch := first | assumption | omega | (simp only [jw_t_I, px_cpt]; done) | (simp only [jw_t_I, px_cpt]; omega)) only [pxL0, pxL1, pxL2, pxL3, pxL4, pxL5, pxL6, pxL7, pxL8, pxL9, pxL10, pxL11, pxL12, pxL13, pxL14, pxL15, pxL16, pxL17, pxL18, pxL19, pxL20, pxL21, pxL22, pxL23, pxL24, pxL25, pxL26, pxL27, pxL28, pxL29, pxL30, pxL31, pxL32, pxL33, pxL34, pxL35, pxL36, pxL37, pxL38, pxL39, pxL40, pxL41, pxL42, pxL43, pxL44, pxL45, pxL46, pxL47, pxL48, pxL49, pxL51, pxL57, pxL58, pxL59, pxL60, pxL61, pxL62, pxL63, pxL64, pxL65, pxL66, pxL67, pxL68, pxL69, pxL70, pxL71, pxL72, pxL73, pxL74, pxL75, pxL76, pxL77, pxL78, pxL79, pxL80, pxL81, pxL82, pxL83, pxL84, pxL85, pxL86, pxL87, pxL88, pxL89, pxL90, pxL91, pxL92, pxL93, pxL94, pxL95, pxL96, pxL97, pxL98, pxL99, pxL100, pxL101, pxL102, pxL103, pxL104, pxL105, pxL106, pxL107, pxL108, pxL109, pxL110, pxL111, pxL112, pxL113, pxL114, pxL115, pxL116, pxL117, pxL118, pxL119, pxL120, pxL121, pxL122, pxL123, pxL124, pxL125, pxL126, pxL200, pxL240, pxL287, pxL388, pxL400, pxL429, pxL431, pxL440, pxL1240, pxL1600, pxL1681, pxL12028, pxL13849, pxL14880, pxL25173, pxL26908, pxL49600, pxL65535, pxL65536, ↓reduceIte, reduceCtorEq, pxJ_add, pxJ_sub, pxJ_mul, pxJ_neg, pxD_lt_t, pxD_lt_f, pxD_le_t, pxD_le_f, pxD_eq_t, pxD_eq_f, pxJ_lt, pxJ_le, pxJ_eq, px_gI, px_gR, px_pI, px_rc, px_ai, px_ar, px_si, px_ln, px_cp, pxJ_div, pxJ_b8, pxJ_byte, px_b2, px_bs, px_rb0, px_rb1, px_min, px_max, px_compare, pxW_some, jw_t_I, px_cpt, jw_r_I, px_cpr, jw_l_I, px_cpl, Option.some.injEq, w0, w5, w1, t9, r0, rf, rl, th, e, w01, w11, rl1, t91]
  have au : ∀ {h1 h2 : jw_H} {rep' : Bool}, pxF (pxQr 256) h h1 → pxF (fun k f => k = 255 ∧ f = 3) h1 h2 → (pxM h1 536 5 = if rep' = true then 1 else 0) → pxF pxQA h h2 ∧ pxAux h2 rep' := by
    intro h1 h2 rep' F Fn e
    obtain ⟨rs, z⟩ := Z
    have F2 : pxF (fun k f => pxQr 256 k f ∨ (k = 255 ∧ f = 3)) h h2 := (F.mono (fun k f z => Or.inl z)).trans (Fn.mono (fun k f z => Or.inr z))
    exact ⟨F2.mono (fun k f z => by unfold pxQr pxQy at z; unfold pxQA; omega), W.fr F2 (fun f z => by unfold pxQr pxQy; omega), M.fr F2 (fun f z => by unfold pxQr pxQy; omega), HS.fr F2 (fun f z => by unfold pxQr pxQy; omega), ⟨rs, z.fr F2 (fun k f _ _ => by unfold pxQr pxQy; omega)⟩, X.fr F2 (fun k f _ _ => by unfold pxQr pxQy; omega), by rw [Fn.m (by omega)]; exact e⟩
  unfold pxDoC
  by_cases ok : (pxChgs s p (l + 1 - f).toNat f (pxRs T.1) rep).1 = true
  · obtain ⟨h1, v1, v2, v3, v4⟩ := z1 ok
    obtain ⟨h2, y1, y2, y3, y4, y5⟩ := go v1 v2 v3 cl
    obtain ⟨a1, a2⟩ := au y2 y3 v4
    rw [y1, if_pos ok]
    exact pxW_some.mpr ⟨a1, rfl, ⟨fun _ => ⟨y4, y5⟩, fun z => absurd rfl z⟩, _, a2, fun _ => rfl⟩
  · obtain ⟨h1, rs', rep', v1, v2, v3, v4, r5⟩ := z2 (by simpa using ok)
    obtain ⟨h2, y1, y2, y3, y4, y5⟩ := go v1 v2 v3 (by rw [v4, pxRs_len])
    rw [y1, if_neg ok]
    obtain ⟨a1, a2⟩ := au y2 y3 r5
    exact pxW_some.mpr ⟨a1, rfl, ⟨fun z => absurd z (by show ¬ (4 : Int) = 0; omega), fun _ => ⟨⟨_, y4⟩, y5⟩⟩, _, a2, fun z => absurd z (by show ¬ (4 : Int) = 0; omega)⟩
end
