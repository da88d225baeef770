/-! orders line by line: the program's orders in a row, and orders that steer -/
def pxFlI : List Int → Nat → List (Int × Nat)
  | [], _ => []
  | q :: r, i => (q, i + 1) :: pxFlI r (i + 1)
/-- all orders in a row, each with the place of the next one -/
def pxFl : List (Int × List Int) → Nat → List (Int × Nat)
  | [], _ => []
  | t :: r, i => ((t.1, i + 1 + t.2.length) :: pxFlI t.2 (i + 1)) ++ pxFl r (i + 1 + t.2.length)
theorem pxFlI_len : ∀ (ps : List Int) (i : Nat), (pxFlI ps i).length = ps.length
  | [], _ => rfl
  | q :: r, i => by
    have := pxFlI_len r (i + 1)
    show (pxFlI r (i + 1)).length + 1 = r.length + 1
    omega
theorem pxFl_len : ∀ (L : List (Int × List Int)) (i : Nat), (pxFl L i).length = pxCnt L
  | [], _ => rfl
  | t :: r, i => by
    have h1 := pxFl_len r (i + 1 + t.2.length)
    have h2 := pxFlI_len t.2 (i + 1)
    show (((t.1, i + 1 + t.2.length) :: pxFlI t.2 (i + 1)) ++ pxFl r (i + 1 + t.2.length)).length = 1 + t.2.length + pxCnt r
    rw [List.length_append, List.length_cons]
    omega
theorem pxFlI_at {h : jw_H} {s : List Int} : ∀ (ps : List Int) (i : Nat), pxIn h s i ps → (∀ q ∈ ps, 0 ≤ q ∧ q ≤ s.length ∧ (pxRd s q true).1 = true) → ∀ (k : Nat) (q : Int) (nx : Nat), (pxFlI ps i)[k]? = some (q, nx) → pxOd h s (i + k) q ∧ pxM h (12 + 4 * (i + k)) 9 = nx ∧ nx = i + k + 1 ∧ k < ps.length ∧ 0 ≤ q ∧ q ≤ s.length ∧ (pxRd s q true).1 = true
  | [], i, _, _, k, q, nx, e => by cases e
  | p :: r, i, H, v, 0, q, nx, e => by
    obtain ⟨a1, a2, -⟩ := H
    cases e
    obtain ⟨v1, v2, v3⟩ := v p List.mem_cons_self
    exact ⟨a1, by rw [show i + 0 = i by omega, a2]; omega, rfl, Nat.succ_pos _, v1, v2, v3⟩
  | p :: r, i, H, v, k + 1, q, nx, e => by
    have e' : (pxFlI r (i + 1))[k]? = some (q, nx) := e
    obtain ⟨a1, a2, a3, a4, a5⟩ := pxFlI_at r (i + 1) H.2.2 (fun q hq => v q (List.mem_cons_of_mem _ hq)) k q nx e'
    rw [show i + (k + 1) = i + 1 + k by omega]
    exact ⟨a1, a2, a3, by rw [List.length_cons]; omega, a5⟩
theorem pxFl_at {h : jw_H} {s : List Int} : ∀ (L : List (Int × List Int)) (i : Nat), pxAll h s i L → (∀ t ∈ L, pxVT s t) → ∀ (k : Nat) (q : Int) (nx : Nat), (pxFl L i)[k]? = some (q, nx) → pxOd h s (i + k) q ∧ pxM h (12 + 4 * (i + k)) 9 = nx ∧ i + k < nx ∧ nx ≤ i + pxCnt L ∧ 0 ≤ q ∧ q ≤ s.length ∧ ∃ ins, (pxRd s q ins).1 = true
  | [], i, _, _, k, q, nx, e => by cases e
  | t :: r, i, H, v, k, q, nx, e => by
    obtain ⟨a1, a2, a3, a4⟩ := H
    obtain ⟨v1, v2, v3, v4, -⟩ := v t List.mem_cons_self
    have ec : pxCnt (t :: r) = 1 + t.2.length + pxCnt r := rfl
    have e0 : (((t.1, i + 1 + t.2.length) :: pxFlI t.2 (i + 1)) ++ pxFl r (i + 1 + t.2.length))[k]? = some (q, nx) := e
    have hl : ((t.1, i + 1 + t.2.length) :: pxFlI t.2 (i + 1)).length = 1 + t.2.length := by rw [List.length_cons, pxFlI_len]; omega
    rw [ec]
    by_cases c : k < 1 + t.2.length
    · rw [List.getElem?_append_left (by omega)] at e0
      cases k with
      | zero =>
        have e1 := Option.some.inj e0
        cases e1
        exact ⟨a1, by rw [show i + 0 = i by omega, a2]; omega, by omega, by omega, v1, v2, false, v3⟩
      | succ k =>
        have e1 : (pxFlI t.2 (i + 1))[k]? = some (q, nx) := e0
        obtain ⟨b1, b2, b3, b4, b5, b6, b7⟩ := pxFlI_at t.2 (i + 1) a3 v4 k q nx e1
        rw [show i + (k + 1) = i + 1 + k by omega]
        exact ⟨b1, b2, by omega, by omega, b5, b6, true, b7⟩
    · rw [List.getElem?_append_right (by omega), hl] at e0
      obtain ⟨b1, b2, b3, b4, b5⟩ := pxFl_at r (i + 1 + t.2.length) a4 (fun u hu => v u (List.mem_cons_of_mem _ hu)) (k - (1 + t.2.length)) q nx e0
      rw [show i + 1 + t.2.length + (k - (1 + t.2.length)) = i + k by omega] at b1 b2 b3
      exact ⟨b1, b2, b3, by omega, b5⟩
theorem pxPr.fl {h : jw_H} {b : Nat} {s : List Int} {L : List (Int × List Int)} (H : pxPr h b s L) {k : Nat} {q : Int} {nx : Nat} (e : (pxFl L 0)[k]? = some (q, nx)) : pxOC h b s k q ∧ pxM h (12 + 4 * k) 9 = nx ∧ k < nx ∧ nx ≤ pxCnt L := by
  obtain ⟨a1, a2, a3, a4, a5, a6, a7⟩ := H
  obtain ⟨b1, b2, b3, b4, b5, b6, ins, b7⟩ := pxFl_at L 0 a3 a7 k q nx e
  rw [Nat.zero_add] at b1 b2 b3 b4
  obtain ⟨k1, k2⟩ := pxRd_ok b7
  exact ⟨⟨a1, by omega, a2, b1, k1, k2, a6, b5, b6⟩, b2, b3, b4⟩
/-- a frame that may touch what is noted with orders -/
theorem pxPr.fo {P : Nat → Nat → Prop} {h h' : jw_H} {b : Nat} {s : List Int} {L : List (Int × List Int)} (H : pxPr h b s L) (F : pxF P h h') (hP : ∀ k f, k ≤ 253 → P k f → 12 ≤ k ∧ k ≤ 251 ∧ k % 4 = 0 ∧ 10 ≤ f) : pxPr h' b s L := by
  obtain ⟨a1, a2, a3, a4, a5, a6, a7⟩ := H
  have e : pxM h' 10 7 = pxM h 10 7 := F.m (fun z => by have := hP _ _ (by omega) z; omega)
  exact ⟨a1, ⟨a2.1.fr F (fun k f y z => by have := hP k f (by omega) z; omega), a2.2.fr F (fun z => by have := hP _ _ (by omega) z; omega) (fun z => by have := hP _ _ (by omega) z; omega) (fun f z => by have := hP _ _ (by omega) z; omega)⟩, a3.fr F (fun k f y _ z => by have := hP k f (by omega) z; omega) (by rw [e]; exact Int.le_refl _) _ _ (fun k f z1 z2 z3 z => by have := hP k f (by omega) z; omega), by rw [F.m (fun z => by have := hP _ _ (by omega) z; omega)]; exact a4, a5, by rw [e]; exact a6, a7⟩
/-- an order that steers: the reason, the next place, whether the line is left, whether it ends, whether one was replaced -/
def pxBStr (s : List Int) (L : List (Int × List Int)) (q : Int) (nx : Nat) (rep : Bool) : Int × Nat × Bool × Bool × Bool :=
  if pxAc s q = 113 then (0, pxCnt L, false, true, rep)
  else if pxAc s q = 78 then (0, nx, true, false, rep)
  else if pxAc s q = 58 ∨ (pxAc s q = 84 ∧ rep = false) then (0, nx, false, false, rep)
  else if pxOn s (pxWh s q).2.1 = -1 then (0, pxCnt L, false, false, rep)
  else (if pxBeh s (pxOn s (pxWh s q).2.1) L 0 = -1 then 6 else 0, pxCnt (L.take (pxBeh s (pxOn s (pxWh s q).2.1) L 0).toNat), false, false, if pxAc s q = 84 then false else rep)
section
variable {T : pxTx} {W : pxWk} {Fr : pxFh} {S : pxSto} {rep : Bool} {h : jw_H} {s : List Int} {b k nx : Nat} {q : Int} {L : List (Int × List Int)}
theorem pxBS.rep0 (H : pxBS h T (W, Fr, S, rep)) : pxBS (jw_setI h 536 5 (pxJ 0)) T (W, Fr, S, false) := by
  obtain ⟨a1, a2, a3, a4, a5, a6, a7, ⟨rs, a8⟩, a9, a10⟩ := pxBS_i.mp H
  have F : pxF (fun k f => k = 536 ∧ f = 5) h (jw_setI h 536 5 (pxJ 0)) := pxF.setI ⟨rfl, rfl⟩
  exact ⟨a1.fr F (fun f z => by omega), a2.fr F (fun f z => by omega), a3.fr F (fun f z => by omega), pxIT.fr a4 F (fun k f _ _ => by omega), a5.fr F (fun k f _ _ => by omega), pxIS.fr a6 F (fun k f _ _ => by omega), a7.fr F (fun k f z => by omega), ⟨rs, a8.fr F (fun k f _ _ => by omega)⟩, pxM_eq (by omega) (by omega), a10⟩
def pxQE : Nat → Nat → Prop := fun k f => (k = 571 ∧ (f = 15 ∨ f = 18 ∨ f = 19)) ∨ (k = 536 ∧ f = 5)
def pxBStrR (h : jw_H) (T : pxTx) (W : pxWk) (Fr : pxFh) (S : pxSto) (R : Int × Nat × Bool × Bool × Bool) (v : Int32) (h' : jw_H) : Prop :=
  pxF pxQE h h' ∧ pxM h' 571 15 = R.1 ∧ (R.1 = 0 → v = pxJ ((R.2.1 : Nat) : Int)) ∧ pxBS h' T (W, Fr, S, R.2.2.2.2) ∧ (pxM h' 571 18 = if R.2.2.1 = true then 1 else 0) ∧ (pxM h' 571 19 = if R.2.2.2.1 = true then 1 else 0)
theorem s_X1_steer (PR : pxPr h b s L) (e : (pxFl L 0)[k]? = some (q, nx)) (ste : pxSteer (pxAc s q) = true) (H : pxBS h T (W, Fr, S, rep)) (m15 : pxM h 571 15 = 0) (m18 : pxM h 571 18 = 0) (m19 : pxM h 571 19 = 0) :
    pxW (f_X1_steer h 571 (some (12 + 4 * k))) (pxBStrR h T W Fr S (pxBStr s L q nx rep)) := by
  obtain ⟨OC, m9, kn, nc⟩ := PR.fl e
  obtain ⟨hb, hi, PG, O, okw, oka, m7, p0, p1⟩ := OC
  have PS := PG.1
  have t5 := (PS.2.2.2.2.2.2.2 k hi).2.1
  have f3 : pxM h (12 + 4 * k) 3 = pxAc s q := O.2.2.2.1
  have o5 := O.2.2.2.2.1
  have tg := PS.1
  have m6 := PR.2.2.2.1
  have c60 := PR.2.2.2.2.1
  obtain ⟨a1, a2, a3, a4, a5, a6, a7, a8, a9, a10⟩ := pxBS_i.mp H
  obtain ⟨t1, r0, r1, r2, r3, r4, r5, r6, r7, r8, r9⟩ := a1
  have t2 := a3.1
  have ste' := pxSteer_i.mp ste
  have rc : pxP s (pxWh s q).2.1 = pxAc s q := rfl
  rw [rc] at o5
  unfold pxBStr f_X1_steer
  by_cases c113 : pxAc s q = 113
  · rw [if_pos c113]
    have F1 : pxF (fun k f => k = 571 ∧ f = 19) h (jw_setI h 571 19 (pxJ 1)) := pxF.setI ⟨rfl, rfl⟩
    refine ⟨pxJ ((pxCnt L : Nat) : Int), jw_setI h 571 19 (pxJ 1), ?_, F1.mono (fun k f z => by unfold pxQE; omega), by rw [F1.m (by omega)]; exact m15, fun _ => rfl, H.fr F1 (fun k f z => by omega), by rw [F1.m (by omega)]; exact m18, pxM_eq (z := 1) (by omega) (by omega)⟩
    have m61 : pxM (jw_setI h 571 19 (pxJ 1)) 10 6 = ((pxCnt L : Nat) : Int) := by rw [F1.m (by omega)]; exact m6
    clear H PR O PG PS oka o5 a2 a3 a4 a5 a6 a7 a8 a9 a10 F1
    simp (maxSteps := 4000000) (disch := first | assumption | omega | (simp only [jw_t_I, px_cpt, t5]; done) | (simp only [jw_t_I, px_cpt, t5]; omega)) only [pxL0, pxL1, pxL2, pxL3, pxL4, pxL5, pxL6, pxL7, pxL8, pxL9, pxL10, pxL11, pxL12, pxL13, pxL14, pxL15, pxL16, pxL17, pxL18, pxL19, pxL20, pxL21, pxL22, pxL23, pxL24, pxL25, pxL26, pxL27, pxL28, pxL29, pxL30, pxL31, pxL32, pxL33, pxL34, pxL35, pxL36, pxL37, pxL38, pxL39, pxL40, pxL41, pxL42, pxL43, pxL44, pxL45, pxL46, pxL47, pxL48, pxL49, pxL51, pxL57, pxL58, pxL59, pxL60, pxL61, pxL62, pxL63, pxL64, pxL65, pxL66, pxL67, pxL68, pxL69, pxL70, pxL71, pxL72, pxL73, pxL74, pxL75, pxL76, pxL77, pxL78, pxL79, pxL80, pxL81, pxL82, pxL83, pxL84, pxL85, pxL86, pxL87, pxL88, pxL89, pxL90, pxL91, pxL92, pxL93, pxL94, pxL95, pxL96, pxL97, pxL98, pxL99, pxL100, pxL101, pxL102, pxL103, pxL104, pxL105, pxL106, pxL107, pxL108, pxL109, pxL110, pxL111, pxL112, pxL113, pxL114, pxL115, pxL116, pxL117, pxL118, pxL119, pxL120, pxL121, pxL122, pxL123, pxL124, pxL125, pxL126, pxL200, pxL240, pxL287, pxL388, pxL400, pxL429, pxL431, pxL440, pxL1240, pxL1600, pxL1681, pxL12028, pxL13849, pxL14880, pxL25173, pxL26908, pxL49600, pxL65535, pxL65536, ↓reduceIte, reduceCtorEq, pxJ_add, pxJ_sub, pxJ_mul, pxJ_neg, pxD_lt_t, pxD_lt_f, pxD_le_t, pxD_le_f, pxD_eq_t, pxD_eq_f, pxJ_lt, pxJ_le, pxJ_eq, px_gI, px_gR, px_pI, px_rc, px_ai, px_ar, px_si, px_ln, px_cp, pxJ_div, pxJ_b8, pxJ_byte, px_b2, px_bs, px_rb0, px_rb1, px_min, px_max, px_compare, pxW_some, jw_t_I, px_cpt, jw_r_I, px_cpr, jw_l_I, px_cpl, Option.some.injEq, t5, f3, c113, px_pB1, t1, r0, tg, m61]
  rw [if_neg c113]
  by_cases c78 : pxAc s q = 78
  · rw [if_pos c78]
    have F1 : pxF (fun k f => k = 571 ∧ f = 18) h (jw_setI h 571 18 (pxJ 1)) := pxF.setI ⟨rfl, rfl⟩
    refine ⟨pxJ ((nx : Nat) : Int), jw_setI h 571 18 (pxJ 1), ?_, F1.mono (fun k f z => by unfold pxQE; omega), by rw [F1.m (by omega)]; exact m15, fun _ => rfl, H.fr F1 (fun k f z => by omega), pxM_eq (z := 1) (by omega) (by omega), by rw [F1.m (by omega)]; exact m19⟩
    have m91 : pxM (jw_setI h 571 18 (pxJ 1)) (12 + 4 * k) 9 = ((nx : Nat) : Int) := by rw [F1.m (by omega)]; exact m9
    clear H PR O PG PS oka o5 a2 a3 a4 a5 a6 a7 a8 a9 a10 F1
    simp (maxSteps := 4000000) (disch := first | assumption | omega | (simp only [jw_t_I, px_cpt, t5]; done) | (simp only [jw_t_I, px_cpt, t5]; omega)) only [pxL0, pxL1, pxL2, pxL3, pxL4, pxL5, pxL6, pxL7, pxL8, pxL9, pxL10, pxL11, pxL12, pxL13, pxL14, pxL15, pxL16, pxL17, pxL18, pxL19, pxL20, pxL21, pxL22, pxL23, pxL24, pxL25, pxL26, pxL27, pxL28, pxL29, pxL30, pxL31, pxL32, pxL33, pxL34, pxL35, pxL36, pxL37, pxL38, pxL39, pxL40, pxL41, pxL42, pxL43, pxL44, pxL45, pxL46, pxL47, pxL48, pxL49, pxL51, pxL57, pxL58, pxL59, pxL60, pxL61, pxL62, pxL63, pxL64, pxL65, pxL66, pxL67, pxL68, pxL69, pxL70, pxL71, pxL72, pxL73, pxL74, pxL75, pxL76, pxL77, pxL78, pxL79, pxL80, pxL81, pxL82, pxL83, pxL84, pxL85, pxL86, pxL87, pxL88, pxL89, pxL90, pxL91, pxL92, pxL93, pxL94, pxL95, pxL96, pxL97, pxL98, pxL99, pxL100, pxL101, pxL102, pxL103, pxL104, pxL105, pxL106, pxL107, pxL108, pxL109, pxL110, pxL111, pxL112, pxL113, pxL114, pxL115, pxL116, pxL117, pxL118, pxL119, pxL120, pxL121, pxL122, pxL123, pxL124, pxL125, pxL126, pxL200, pxL240, pxL287, pxL388, pxL400, pxL429, pxL431, pxL440, pxL1240, pxL1600, pxL1681, pxL12028, pxL13849, pxL14880, pxL25173, pxL26908, pxL49600, pxL65535, pxL65536, ↓reduceIte, reduceCtorEq, pxJ_add, pxJ_sub, pxJ_mul, pxJ_neg, pxD_lt_t, pxD_lt_f, pxD_le_t, pxD_le_f, pxD_eq_t, pxD_eq_f, pxJ_lt, pxJ_le, pxJ_eq, px_gI, px_gR, px_pI, px_rc, px_ai, px_ar, px_si, px_ln, px_cp, pxJ_div, pxJ_b8, pxJ_byte, px_b2, px_bs, px_rb0, px_rb1, px_min, px_max, px_compare, pxW_some, jw_t_I, px_cpt, jw_r_I, px_cpr, jw_l_I, px_cpl, Option.some.injEq, t5, f3, c78, px_pB1, t1, m91]
  rw [if_neg c78]
  by_cases c58 : pxAc s q = 58 ∨ (pxAc s q = 84 ∧ rep = false)
  · rw [if_pos c58]
    refine ⟨pxJ ((nx : Nat) : Int), h, ?_, pxF.rfl, m15, fun _ => rfl, H, m18, m19⟩
    unfold g_X1_steer_b69
    rcases c58 with c | ⟨c, cr⟩
    · clear H PR O PG PS oka o5 a2 a3 a4 a5 a6 a7 a8 a9 a10
      simp (maxSteps := 4000000) (disch := first | assumption | omega | (simp only [jw_t_I, px_cpt, t5]; done) | (simp only [jw_t_I, px_cpt, t5]; omega)) only [pxL0, pxL1, pxL2, pxL3, pxL4, pxL5, pxL6, pxL7, pxL8, pxL9, pxL10, pxL11, pxL12, pxL13, pxL14, pxL15, pxL16, pxL17, pxL18, pxL19, pxL20, pxL21, pxL22, pxL23, pxL24, pxL25, pxL26, pxL27, pxL28, pxL29, pxL30, pxL31, pxL32, pxL33, pxL34, pxL35, pxL36, pxL37, pxL38, pxL39, pxL40, pxL41, pxL42, pxL43, pxL44, pxL45, pxL46, pxL47, pxL48, pxL49, pxL51, pxL57, pxL58, pxL59, pxL60, pxL61, pxL62, pxL63, pxL64, pxL65, pxL66, pxL67, pxL68, pxL69, pxL70, pxL71, pxL72, pxL73, pxL74, pxL75, pxL76, pxL77, pxL78, pxL79, pxL80, pxL81, pxL82, pxL83, pxL84, pxL85, pxL86, pxL87, pxL88, pxL89, pxL90, pxL91, pxL92, pxL93, pxL94, pxL95, pxL96, pxL97, pxL98, pxL99, pxL100, pxL101, pxL102, pxL103, pxL104, pxL105, pxL106, pxL107, pxL108, pxL109, pxL110, pxL111, pxL112, pxL113, pxL114, pxL115, pxL116, pxL117, pxL118, pxL119, pxL120, pxL121, pxL122, pxL123, pxL124, pxL125, pxL126, pxL200, pxL240, pxL287, pxL388, pxL400, pxL429, pxL431, pxL440, pxL1240, pxL1600, pxL1681, pxL12028, pxL13849, pxL14880, pxL25173, pxL26908, pxL49600, pxL65535, pxL65536, ↓reduceIte, reduceCtorEq, pxJ_add, pxJ_sub, pxJ_mul, pxJ_neg, pxD_lt_t, pxD_lt_f, pxD_le_t, pxD_le_f, pxD_eq_t, pxD_eq_f, pxJ_lt, pxJ_le, pxJ_eq, px_gI, px_gR, px_pI, px_rc, px_ai, px_ar, px_si, px_ln, px_cp, pxJ_div, pxJ_b8, pxJ_byte, px_b2, px_bs, px_rb0, px_rb1, px_min, px_max, px_compare, pxW_some, jw_t_I, px_cpt, jw_r_I, px_cpr, jw_l_I, px_cpl, Option.some.injEq, t5, f3, c, m9]
    · have m50 : pxM h 536 5 = 0 := by rw [a9, cr]; rfl
      clear H PR O PG PS oka o5 a2 a3 a4 a5 a6 a7 a8 a9 a10
      simp (maxSteps := 4000000) (disch := first | assumption | omega | (simp only [jw_t_I, px_cpt, t5]; done) | (simp only [jw_t_I, px_cpt, t5]; omega)) only [pxL0, pxL1, pxL2, pxL3, pxL4, pxL5, pxL6, pxL7, pxL8, pxL9, pxL10, pxL11, pxL12, pxL13, pxL14, pxL15, pxL16, pxL17, pxL18, pxL19, pxL20, pxL21, pxL22, pxL23, pxL24, pxL25, pxL26, pxL27, pxL28, pxL29, pxL30, pxL31, pxL32, pxL33, pxL34, pxL35, pxL36, pxL37, pxL38, pxL39, pxL40, pxL41, pxL42, pxL43, pxL44, pxL45, pxL46, pxL47, pxL48, pxL49, pxL51, pxL57, pxL58, pxL59, pxL60, pxL61, pxL62, pxL63, pxL64, pxL65, pxL66, pxL67, pxL68, pxL69, pxL70, pxL71, pxL72, pxL73, pxL74, pxL75, pxL76, pxL77, pxL78, pxL79, pxL80, pxL81, pxL82, pxL83, pxL84, pxL85, pxL86, pxL87, pxL88, pxL89, pxL90, pxL91, pxL92, pxL93, pxL94, pxL95, pxL96, pxL97, pxL98, pxL99, pxL100, pxL101, pxL102, pxL103, pxL104, pxL105, pxL106, pxL107, pxL108, pxL109, pxL110, pxL111, pxL112, pxL113, pxL114, pxL115, pxL116, pxL117, pxL118, pxL119, pxL120, pxL121, pxL122, pxL123, pxL124, pxL125, pxL126, pxL200, pxL240, pxL287, pxL388, pxL400, pxL429, pxL431, pxL440, pxL1240, pxL1600, pxL1681, pxL12028, pxL13849, pxL14880, pxL25173, pxL26908, pxL49600, pxL65535, pxL65536, ↓reduceIte, reduceCtorEq, pxJ_add, pxJ_sub, pxJ_mul, pxJ_neg, pxD_lt_t, pxD_lt_f, pxD_le_t, pxD_le_f, pxD_eq_t, pxD_eq_f, pxJ_lt, pxJ_le, pxJ_eq, px_gI, px_gR, px_pI, px_rc, px_ai, px_ar, px_si, px_ln, px_cp, pxJ_div, pxJ_b8, pxJ_byte, px_b2, px_bs, px_rb0, px_rb1, px_min, px_max, px_compare, pxW_some, jw_t_I, px_cpt, jw_r_I, px_cpr, jw_l_I, px_cpl, Option.some.injEq, t5, f3, c, t1, r5, t2, m50, m9]
  rw [if_neg c58]
  have cc : pxAc s q = 98 ∨ pxAc s q = 84 := by omega
  have st2 : pxW (g_X1_steer_b74 h 571 (some (12 + 4 * k))) (pxBStrR h T W Fr S (if pxOn s (pxWh s q).2.1 = -1 then (0, pxCnt L, false, false, rep)
  else (if pxBeh s (pxOn s (pxWh s q).2.1) L 0 = -1 then 6 else 0, pxCnt (L.take (pxBeh s (pxOn s (pxWh s q).2.1) L 0).toNat), false, false, if pxAc s q = 84 then false else rep))) := by
    have g5 := o5 (by unfold pxOnA; omega)
    have lab := pxOn_lab (s := s) (p := (pxWh s q).2.1) (by rw [rc]; omega)
    unfold g_X1_steer_b74
    by_cases cn : pxOn s (pxWh s q).2.1 = -1
    · rw [if_pos cn]
      rw [cn] at g5
      refine ⟨pxJ ((pxCnt L : Nat) : Int), h, ?_, pxF.rfl, m15, fun _ => rfl, H, m18, m19⟩
      clear H PR O PG PS oka o5 a2 a3 a4 a5 a6 a7 a8 a9 a10
      simp (maxSteps := 4000000) (disch := first | assumption | omega | (simp only [jw_t_I, px_cpt, t5]; done) | (simp only [jw_t_I, px_cpt, t5]; omega)) only [pxL0, pxL1, pxL2, pxL3, pxL4, pxL5, pxL6, pxL7, pxL8, pxL9, pxL10, pxL11, pxL12, pxL13, pxL14, pxL15, pxL16, pxL17, pxL18, pxL19, pxL20, pxL21, pxL22, pxL23, pxL24, pxL25, pxL26, pxL27, pxL28, pxL29, pxL30, pxL31, pxL32, pxL33, pxL34, pxL35, pxL36, pxL37, pxL38, pxL39, pxL40, pxL41, pxL42, pxL43, pxL44, pxL45, pxL46, pxL47, pxL48, pxL49, pxL51, pxL57, pxL58, pxL59, pxL60, pxL61, pxL62, pxL63, pxL64, pxL65, pxL66, pxL67, pxL68, pxL69, pxL70, pxL71, pxL72, pxL73, pxL74, pxL75, pxL76, pxL77, pxL78, pxL79, pxL80, pxL81, pxL82, pxL83, pxL84, pxL85, pxL86, pxL87, pxL88, pxL89, pxL90, pxL91, pxL92, pxL93, pxL94, pxL95, pxL96, pxL97, pxL98, pxL99, pxL100, pxL101, pxL102, pxL103, pxL104, pxL105, pxL106, pxL107, pxL108, pxL109, pxL110, pxL111, pxL112, pxL113, pxL114, pxL115, pxL116, pxL117, pxL118, pxL119, pxL120, pxL121, pxL122, pxL123, pxL124, pxL125, pxL126, pxL200, pxL240, pxL287, pxL388, pxL400, pxL429, pxL431, pxL440, pxL1240, pxL1600, pxL1681, pxL12028, pxL13849, pxL14880, pxL25173, pxL26908, pxL49600, pxL65535, pxL65536, ↓reduceIte, reduceCtorEq, pxJ_add, pxJ_sub, pxJ_mul, pxJ_neg, pxD_lt_t, pxD_lt_f, pxD_le_t, pxD_le_f, pxD_eq_t, pxD_eq_f, pxJ_lt, pxJ_le, pxJ_eq, px_gI, px_gR, px_pI, px_rc, px_ai, px_ar, px_si, px_ln, px_cp, pxJ_div, pxJ_b8, pxJ_byte, px_b2, px_bs, px_rb0, px_rb1, px_min, px_max, px_compare, pxW_some, jw_t_I, px_cpt, jw_r_I, px_cpr, jw_l_I, px_cpl, Option.some.injEq, t5, g5, t1, r0, tg, m6]
    · rw [if_neg cn]
      have pb := s_X6_placeBehind PR lab.1 lab.2
      have le := pxCnt_tle L (pxBeh s (pxOn s (pxWh s q).2.1) L 0).toNat
      have fin : ∀ (h1 : jw_H) (v x : Int), pxF (fun k f => k = 571 ∧ f = 15) h h1 → pxM h1 571 15 = x → (x = 0 → v = ((pxCnt (L.take (pxBeh s (pxOn s (pxWh s q).2.1) L 0).toNat) : Nat) : Int)) → pxW (g_X1_steer_b113 h1 571 (some (12 + 4 * k)) (pxJ v)) (pxBStrR h T W Fr S (x, pxCnt (L.take (pxBeh s (pxOn s (pxWh s q).2.1) L 0).toNat), false, false, if pxAc s q = 84 then false else rep)) := by
        intro h1 v x F1 m1 vx
        have H1 := H.fr F1 (fun k f z => by omega)
        have t51 : (jw_t h1 (12 + 4 * k)).1 = 5 := by rw [F1.t]; exact t5
        have f31 : pxM h1 (12 + 4 * k) 3 = pxAc s q := by rw [F1.m (by omega)]; exact f3
        have t11 : (jw_t h1 571).1 = 1 := by rw [F1.t]; exact t1
        have r51 : jw_r h1 571 5 = some 536 := by rw [F1.r (by omega)]; exact r5
        have t21 : (jw_t h1 536).1 = 2 := by rw [F1.t]; exact t2
        unfold g_X1_steer_b113
        by_cases c84 : pxAc s q = 84
        · rw [if_pos c84]
          have F2 : pxF (fun k f => (k = 571 ∧ f = 15) ∨ (k = 536 ∧ f = 5)) h (jw_setI h1 536 5 (pxJ 0)) := (F1.mono (fun k f z => Or.inl z)).trans (pxF.setI (by omega))
          refine ⟨pxJ v, jw_setI h1 536 5 (pxJ 0), ?_, F2.mono (fun k f z => by unfold pxQE; omega), by rw [pxM_ne (by omega)]; exact m1, fun z => by rw [vx z], H1.rep0, by rw [F2.m (by omega)]; exact m18, by rw [F2.m (by omega)]; exact m19⟩
          clear H PR O PG PS oka o5 a2 a3 a4 a5 a6 a7 a8 a9 a10 F1 F2 H1 vx
          simp (maxSteps := 4000000) (disch := first | assumption | omega | (simp only [jw_t_I, px_cpt, t51, t21]; done) | (simp only [jw_t_I, px_cpt, t51, t21]; omega)) only [pxL0, pxL1, pxL2, pxL3, pxL4, pxL5, pxL6, pxL7, pxL8, pxL9, pxL10, pxL11, pxL12, pxL13, pxL14, pxL15, pxL16, pxL17, pxL18, pxL19, pxL20, pxL21, pxL22, pxL23, pxL24, pxL25, pxL26, pxL27, pxL28, pxL29, pxL30, pxL31, pxL32, pxL33, pxL34, pxL35, pxL36, pxL37, pxL38, pxL39, pxL40, pxL41, pxL42, pxL43, pxL44, pxL45, pxL46, pxL47, pxL48, pxL49, pxL51, pxL57, pxL58, pxL59, pxL60, pxL61, pxL62, pxL63, pxL64, pxL65, pxL66, pxL67, pxL68, pxL69, pxL70, pxL71, pxL72, pxL73, pxL74, pxL75, pxL76, pxL77, pxL78, pxL79, pxL80, pxL81, pxL82, pxL83, pxL84, pxL85, pxL86, pxL87, pxL88, pxL89, pxL90, pxL91, pxL92, pxL93, pxL94, pxL95, pxL96, pxL97, pxL98, pxL99, pxL100, pxL101, pxL102, pxL103, pxL104, pxL105, pxL106, pxL107, pxL108, pxL109, pxL110, pxL111, pxL112, pxL113, pxL114, pxL115, pxL116, pxL117, pxL118, pxL119, pxL120, pxL121, pxL122, pxL123, pxL124, pxL125, pxL126, pxL200, pxL240, pxL287, pxL388, pxL400, pxL429, pxL431, pxL440, pxL1240, pxL1600, pxL1681, pxL12028, pxL13849, pxL14880, pxL25173, pxL26908, pxL49600, pxL65535, pxL65536, ↓reduceIte, reduceCtorEq, pxJ_add, pxJ_sub, pxJ_mul, pxJ_neg, pxD_lt_t, pxD_lt_f, pxD_le_t, pxD_le_f, pxD_eq_t, pxD_eq_f, pxJ_lt, pxJ_le, pxJ_eq, px_gI, px_gR, px_pI, px_rc, px_ai, px_ar, px_si, px_ln, px_cp, pxJ_div, pxJ_b8, pxJ_byte, px_b2, px_bs, px_rb0, px_rb1, px_min, px_max, px_compare, pxW_some, jw_t_I, px_cpt, jw_r_I, px_cpr, jw_l_I, px_cpl, Option.some.injEq, t51, t21, f31, c84, t11, r51, px_pB0]
        · rw [if_neg c84]
          have c98 : pxAc s q = 98 := by omega
          refine ⟨pxJ v, h1, ?_, F1.mono (fun k f z => by unfold pxQE; omega), m1, fun z => by rw [vx z], H1, by rw [F1.m (by omega)]; exact m18, by rw [F1.m (by omega)]; exact m19⟩
          clear H PR O PG PS oka o5 a2 a3 a4 a5 a6 a7 a8 a9 a10 F1 H1 vx
          simp (maxSteps := 4000000) (disch := first | assumption | omega | (simp only [jw_t_I, px_cpt, t51]; done) | (simp only [jw_t_I, px_cpt, t51]; omega)) only [pxL0, pxL1, pxL2, pxL3, pxL4, pxL5, pxL6, pxL7, pxL8, pxL9, pxL10, pxL11, pxL12, pxL13, pxL14, pxL15, pxL16, pxL17, pxL18, pxL19, pxL20, pxL21, pxL22, pxL23, pxL24, pxL25, pxL26, pxL27, pxL28, pxL29, pxL30, pxL31, pxL32, pxL33, pxL34, pxL35, pxL36, pxL37, pxL38, pxL39, pxL40, pxL41, pxL42, pxL43, pxL44, pxL45, pxL46, pxL47, pxL48, pxL49, pxL51, pxL57, pxL58, pxL59, pxL60, pxL61, pxL62, pxL63, pxL64, pxL65, pxL66, pxL67, pxL68, pxL69, pxL70, pxL71, pxL72, pxL73, pxL74, pxL75, pxL76, pxL77, pxL78, pxL79, pxL80, pxL81, pxL82, pxL83, pxL84, pxL85, pxL86, pxL87, pxL88, pxL89, pxL90, pxL91, pxL92, pxL93, pxL94, pxL95, pxL96, pxL97, pxL98, pxL99, pxL100, pxL101, pxL102, pxL103, pxL104, pxL105, pxL106, pxL107, pxL108, pxL109, pxL110, pxL111, pxL112, pxL113, pxL114, pxL115, pxL116, pxL117, pxL118, pxL119, pxL120, pxL121, pxL122, pxL123, pxL124, pxL125, pxL126, pxL200, pxL240, pxL287, pxL388, pxL400, pxL429, pxL431, pxL440, pxL1240, pxL1600, pxL1681, pxL12028, pxL13849, pxL14880, pxL25173, pxL26908, pxL49600, pxL65535, pxL65536, ↓reduceIte, reduceCtorEq, pxJ_add, pxJ_sub, pxJ_mul, pxJ_neg, pxD_lt_t, pxD_lt_f, pxD_le_t, pxD_le_f, pxD_eq_t, pxD_eq_f, pxJ_lt, pxJ_le, pxJ_eq, px_gI, px_gR, px_pI, px_rc, px_ai, px_ar, px_si, px_ln, px_cp, pxJ_div, pxJ_b8, pxJ_byte, px_b2, px_bs, px_rb0, px_rb1, px_min, px_max, px_compare, pxW_some, jw_t_I, px_cpt, jw_r_I, px_cpr, jw_l_I, px_cpl, Option.some.injEq, t51, f31, c98]
      by_cases z : pxBeh s (pxOn s (pxWh s q).2.1) L 0 = -1
      · rw [if_pos z] at pb
        rw [if_pos z]
        have F6 : pxF (fun k f => k = 571 ∧ f = 15) h (jw_setI h 571 15 (pxJ 6)) := pxF.setI ⟨rfl, rfl⟩
        obtain ⟨v', h', e', R'⟩ := fin (jw_setI h 571 15 (pxJ 6)) (-1) 6 F6 (pxM_eq (by omega) (by omega)) (fun z => by omega)
        refine ⟨v', h', ?_, R'⟩
        rw [← e']
        clear H PR O PG PS oka o5 a2 a3 a4 a5 a6 a7 a8 a9 a10 F6 fin R' e'
        simp (maxSteps := 4000000) (disch := first | assumption | omega | (simp only [jw_t_I, px_cpt, t5]; done) | (simp only [jw_t_I, px_cpt, t5]; omega)) only [pxL0, pxL1, pxL2, pxL3, pxL4, pxL5, pxL6, pxL7, pxL8, pxL9, pxL10, pxL11, pxL12, pxL13, pxL14, pxL15, pxL16, pxL17, pxL18, pxL19, pxL20, pxL21, pxL22, pxL23, pxL24, pxL25, pxL26, pxL27, pxL28, pxL29, pxL30, pxL31, pxL32, pxL33, pxL34, pxL35, pxL36, pxL37, pxL38, pxL39, pxL40, pxL41, pxL42, pxL43, pxL44, pxL45, pxL46, pxL47, pxL48, pxL49, pxL51, pxL57, pxL58, pxL59, pxL60, pxL61, pxL62, pxL63, pxL64, pxL65, pxL66, pxL67, pxL68, pxL69, pxL70, pxL71, pxL72, pxL73, pxL74, pxL75, pxL76, pxL77, pxL78, pxL79, pxL80, pxL81, pxL82, pxL83, pxL84, pxL85, pxL86, pxL87, pxL88, pxL89, pxL90, pxL91, pxL92, pxL93, pxL94, pxL95, pxL96, pxL97, pxL98, pxL99, pxL100, pxL101, pxL102, pxL103, pxL104, pxL105, pxL106, pxL107, pxL108, pxL109, pxL110, pxL111, pxL112, pxL113, pxL114, pxL115, pxL116, pxL117, pxL118, pxL119, pxL120, pxL121, pxL122, pxL123, pxL124, pxL125, pxL126, pxL200, pxL240, pxL287, pxL388, pxL400, pxL429, pxL431, pxL440, pxL1240, pxL1600, pxL1681, pxL12028, pxL13849, pxL14880, pxL25173, pxL26908, pxL49600, pxL65535, pxL65536, ↓reduceIte, reduceCtorEq, pxJ_add, pxJ_sub, pxJ_mul, pxJ_neg, pxD_lt_t, pxD_lt_f, pxD_le_t, pxD_le_f, pxD_eq_t, pxD_eq_f, pxJ_lt, pxJ_le, pxJ_eq, px_gI, px_gR, px_pI, px_rc, px_ai, px_ar, px_si, px_ln, px_cp, pxJ_div, pxJ_b8, pxJ_byte, px_b2, px_bs, px_rb0, px_rb1, px_min, px_max, px_compare, pxW_some, jw_t_I, px_cpt, jw_r_I, px_cpr, jw_l_I, px_cpl, Option.some.injEq, t5, g5, t1, r0, tg, pb]
      · rw [if_neg z] at pb
        rw [if_neg z]
        obtain ⟨v', h', e', R'⟩ := fin h _ 0 pxF.rfl m15 (fun _ => rfl)
        refine ⟨v', h', ?_, R'⟩
        rw [← e']
        clear H PR O PG PS oka o5 a2 a3 a4 a5 a6 a7 a8 a9 a10 fin R' e'
        simp (maxSteps := 4000000) (disch := first | assumption | omega | (simp only [jw_t_I, px_cpt, t5]; done) | (simp only [jw_t_I, px_cpt, t5]; omega)) only [pxL0, pxL1, pxL2, pxL3, pxL4, pxL5, pxL6, pxL7, pxL8, pxL9, pxL10, pxL11, pxL12, pxL13, pxL14, pxL15, pxL16, pxL17, pxL18, pxL19, pxL20, pxL21, pxL22, pxL23, pxL24, pxL25, pxL26, pxL27, pxL28, pxL29, pxL30, pxL31, pxL32, pxL33, pxL34, pxL35, pxL36, pxL37, pxL38, pxL39, pxL40, pxL41, pxL42, pxL43, pxL44, pxL45, pxL46, pxL47, pxL48, pxL49, pxL51, pxL57, pxL58, pxL59, pxL60, pxL61, pxL62, pxL63, pxL64, pxL65, pxL66, pxL67, pxL68, pxL69, pxL70, pxL71, pxL72, pxL73, pxL74, pxL75, pxL76, pxL77, pxL78, pxL79, pxL80, pxL81, pxL82, pxL83, pxL84, pxL85, pxL86, pxL87, pxL88, pxL89, pxL90, pxL91, pxL92, pxL93, pxL94, pxL95, pxL96, pxL97, pxL98, pxL99, pxL100, pxL101, pxL102, pxL103, pxL104, pxL105, pxL106, pxL107, pxL108, pxL109, pxL110, pxL111, pxL112, pxL113, pxL114, pxL115, pxL116, pxL117, pxL118, pxL119, pxL120, pxL121, pxL122, pxL123, pxL124, pxL125, pxL126, pxL200, pxL240, pxL287, pxL388, pxL400, pxL429, pxL431, pxL440, pxL1240, pxL1600, pxL1681, pxL12028, pxL13849, pxL14880, pxL25173, pxL26908, pxL49600, pxL65535, pxL65536, ↓reduceIte, reduceCtorEq, pxJ_add, pxJ_sub, pxJ_mul, pxJ_neg, pxD_lt_t, pxD_lt_f, pxD_le_t, pxD_le_f, pxD_eq_t, pxD_eq_f, pxJ_lt, pxJ_le, pxJ_eq, px_gI, px_gR, px_pI, px_rc, px_ai, px_ar, px_si, px_ln, px_cp, pxJ_div, pxJ_b8, pxJ_byte, px_b2, px_bs, px_rb0, px_rb1, px_min, px_max, px_compare, pxW_some, jw_t_I, px_cpt, jw_r_I, px_cpr, jw_l_I, px_cpl, Option.some.injEq, t5, g5, t1, r0, tg, pb]
  obtain ⟨v', h', e', R'⟩ := st2
  refine ⟨v', h', ?_, R'⟩
  rw [← e']
  clear H PR O PG PS oka o5 a2 a3 a4 a5 a6 a7 a8 a10 R' e'
  rcases cc with c | c
  · simp (maxSteps := 4000000) (disch := first | assumption | omega | (simp only [jw_t_I, px_cpt, t5]; done) | (simp only [jw_t_I, px_cpt, t5]; omega)) only [pxL0, pxL1, pxL2, pxL3, pxL4, pxL5, pxL6, pxL7, pxL8, pxL9, pxL10, pxL11, pxL12, pxL13, pxL14, pxL15, pxL16, pxL17, pxL18, pxL19, pxL20, pxL21, pxL22, pxL23, pxL24, pxL25, pxL26, pxL27, pxL28, pxL29, pxL30, pxL31, pxL32, pxL33, pxL34, pxL35, pxL36, pxL37, pxL38, pxL39, pxL40, pxL41, pxL42, pxL43, pxL44, pxL45, pxL46, pxL47, pxL48, pxL49, pxL51, pxL57, pxL58, pxL59, pxL60, pxL61, pxL62, pxL63, pxL64, pxL65, pxL66, pxL67, pxL68, pxL69, pxL70, pxL71, pxL72, pxL73, pxL74, pxL75, pxL76, pxL77, pxL78, pxL79, pxL80, pxL81, pxL82, pxL83, pxL84, pxL85, pxL86, pxL87, pxL88, pxL89, pxL90, pxL91, pxL92, pxL93, pxL94, pxL95, pxL96, pxL97, pxL98, pxL99, pxL100, pxL101, pxL102, pxL103, pxL104, pxL105, pxL106, pxL107, pxL108, pxL109, pxL110, pxL111, pxL112, pxL113, pxL114, pxL115, pxL116, pxL117, pxL118, pxL119, pxL120, pxL121, pxL122, pxL123, pxL124, pxL125, pxL126, pxL200, pxL240, pxL287, pxL388, pxL400, pxL429, pxL431, pxL440, pxL1240, pxL1600, pxL1681, pxL12028, pxL13849, pxL14880, pxL25173, pxL26908, pxL49600, pxL65535, pxL65536, ↓reduceIte, reduceCtorEq, pxJ_add, pxJ_sub, pxJ_mul, pxJ_neg, pxD_lt_t, pxD_lt_f, pxD_le_t, pxD_le_f, pxD_eq_t, pxD_eq_f, pxJ_lt, pxJ_le, pxJ_eq, px_gI, px_gR, px_pI, px_rc, px_ai, px_ar, px_si, px_ln, px_cp, pxJ_div, pxJ_b8, pxJ_byte, px_b2, px_bs, px_rb0, px_rb1, px_min, px_max, px_compare, pxW_some, jw_t_I, px_cpt, jw_r_I, px_cpr, jw_l_I, px_cpl, Option.some.injEq, t5, f3, c]
  · have m51 : pxM h 536 5 = 1 := by
      rw [a9]
      cases rep with
      | true => rfl
      | false => exact absurd (Or.inr ⟨c, rfl⟩) c58
    clear a9
    simp (maxSteps := 4000000) (disch := first | assumption | omega | (simp only [jw_t_I, px_cpt, t5]; done) | (simp only [jw_t_I, px_cpt, t5]; omega)) only [pxL0, pxL1, pxL2, pxL3, pxL4, pxL5, pxL6, pxL7, pxL8, pxL9, pxL10, pxL11, pxL12, pxL13, pxL14, pxL15, pxL16, pxL17, pxL18, pxL19, pxL20, pxL21, pxL22, pxL23, pxL24, pxL25, pxL26, pxL27, pxL28, pxL29, pxL30, pxL31, pxL32, pxL33, pxL34, pxL35, pxL36, pxL37, pxL38, pxL39, pxL40, pxL41, pxL42, pxL43, pxL44, pxL45, pxL46, pxL47, pxL48, pxL49, pxL51, pxL57, pxL58, pxL59, pxL60, pxL61, pxL62, pxL63, pxL64, pxL65, pxL66, pxL67, pxL68, pxL69, pxL70, pxL71, pxL72, pxL73, pxL74, pxL75, pxL76, pxL77, pxL78, pxL79, pxL80, pxL81, pxL82, pxL83, pxL84, pxL85, pxL86, pxL87, pxL88, pxL89, pxL90, pxL91, pxL92, pxL93, pxL94, pxL95, pxL96, pxL97, pxL98, pxL99, pxL100, pxL101, pxL102, pxL103, pxL104, pxL105, pxL106, pxL107, pxL108, pxL109, pxL110, pxL111, pxL112, pxL113, pxL114, pxL115, pxL116, pxL117, pxL118, pxL119, pxL120, pxL121, pxL122, pxL123, pxL124, pxL125, pxL126, pxL200, pxL240, pxL287, pxL388, pxL400, pxL429, pxL431, pxL440, pxL1240, pxL1600, pxL1681, pxL12028, pxL13849, pxL14880, pxL25173, pxL26908, pxL49600, pxL65535, pxL65536, ↓reduceIte, reduceCtorEq, pxJ_add, pxJ_sub, pxJ_mul, pxJ_neg, pxD_lt_t, pxD_lt_f, pxD_le_t, pxD_le_f, pxD_eq_t, pxD_eq_f, pxJ_lt, pxJ_le, pxJ_eq, px_gI, px_gR, px_pI, px_rc, px_ai, px_ar, px_si, px_ln, px_cp, pxJ_div, pxJ_b8, pxJ_byte, px_b2, px_bs, px_rb0, px_rb1, px_min, px_max, px_compare, pxW_some, jw_t_I, px_cpt, jw_r_I, px_cpr, jw_l_I, px_cpl, Option.some.injEq, t5, f3, c, t1, r5, t2, m51]
end
