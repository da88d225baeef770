/-! patterns, as the program reads them -/
def pxInC (s : List Int) (p c : Int) : Bool := (pxSpan s (pxCl0 s p)).contains c != decide (pxP s p = 94)
def pxHas (s : List Int) (e : Int × Int) (c : Int) : Prop := e.1 = 2 ∨ (e.1 = 1 ∧ c = e.2) ∨ (e.1 = 4 ∧ pxInC s e.2 c = true)
/-- what an element is, as kind and value -/
def pxEl (s : List Int) (e : Int × Int) (kind : Int) (v : Int64) : Prop :=
  ((e.1 = 1 ∨ e.1 = 2 ∨ e.1 = 4) ∧ kind = 0 ∧ ∀ c, pxIsCh c = true → (pxBs v c = true ↔ pxHas s e c)) ∨ (e.1 = 3 ∧ kind = 1) ∨
  (e.1 = 5 ∧ kind = 2 ∧ v = (pxJ e.2).toInt64 ∧ 1 ≤ e.2 ∧ e.2 ≤ 2) ∨ (e.1 = 6 ∧ kind = 3 ∧ v = (pxJ e.2).toInt64 ∧ 1 ≤ e.2 ∧ e.2 ≤ 2) ∨ (e.1 = 7 ∧ kind = 4 ∧ v = (pxJ e.2).toInt64 ∧ 1 ≤ e.2 ∧ e.2 ≤ 2) ∨
  (e.1 = 8 ∧ kind = 5) ∨ (e.1 = 9 ∧ kind = 6) ∨ (e.1 = 10 ∧ kind = 7)
def pxEls (h : jw_H) (s : List Int) : Int → List (Int × Int) → Prop
  | _, [] => True
  | e, x :: l => pxEl s x (pxM h 252 e.toNat) (jw_l h 253 e.toNat) ∧ pxEls h s (e + 1) l
theorem pxEls.fr {P : Nat → Nat → Prop} {h h' : jw_H} {s : List Int} (F : pxF P h h') : ∀ (l : List (Int × Int)) (e : Int), 0 ≤ e → pxEls h s e l → (∀ (k f : Nat), (k = 252 ∨ k = 253) → e ≤ f → f < e + l.length → ¬ P k f) → pxEls h' s e l
  | [], _, _, _, _ => trivial
  | x :: l, e, h0, H, hP => by
    have hl : ((x :: l).length : Int) = l.length + 1 := by simp
    refine ⟨?_, pxEls.fr F l (e + 1) (by omega) H.2 (fun k f a b c => hP k f a (by omega) (by omega))⟩
    rw [F.m (hP 252 _ (by omega) (by omega) (by omega)), F.l (hP 253 _ (by omega) (by omega) (by omega))]
    exact H.1
theorem pxEls_app {h : jw_H} {s : List Int} : ∀ (l m : List (Int × Int)) (e : Int), pxEls h s e l → pxEls h s (e + l.length) m → pxEls h s e (l ++ m)
  | [], m, e, _, B => by simpa using B
  | x :: l, m, e, A, B => ⟨A.1, pxEls_app l m (e + 1) A.2 (by rw [show e + 1 + (l.length : Int) = e + ((x :: l).length : Int) by simp; omega]; exact B)⟩
theorem pxBit_ne {c : Int} (h : pxIsCh c = true) : (pxBit c = 0) = False := by
  apply eq_false
  intro e
  have := pxBs_bit h h
  rw [e, pxBs_0] at this
  simp at this
theorem pxBit_z {c : Int} (h : ¬ pxIsCh c = true) : (pxBit c = 0) = True := by unfold pxBit; rw [if_neg h]; simp
def pxMask (w : List Int) (m : Int64) : Int64 := w.foldl (fun m c => m ||| pxBit c) m
theorem pxMask_bs {c : Int} (hc : pxIsCh c = true) : ∀ (w : List Int) (m : Int64), (∀ d ∈ w, pxIsCh d = true) → pxBs (pxMask w m) c = (pxBs m c || w.contains c)
  | [], m, _ => by simp [pxMask]
  | d :: w, m, hw => by
    have := pxMask_bs hc w (m ||| pxBit d) (fun x hx => hw x (List.mem_cons_of_mem _ hx))
    show pxBs (pxMask w (m ||| pxBit d)) c = _
    rw [this, pxBs_or, pxBs_bit hc (hw d List.mem_cons_self), List.contains_cons, Bool.or_assoc]
    congr 1
theorem pxSpan_ch {s : List Int} {p : Int} : ∀ d ∈ pxSpan s p, pxIsCh d = true := fun d hd => by
  unfold pxSpan at hd
  exact List.all_eq_true.mp List.all_takeWhile d hd
theorem pxSpan_le {s : List Int} {p : Int} (h0 : 0 ≤ p) (h1 : p ≤ s.length) : p + (pxSpan s p).length ≤ s.length := by
  unfold pxSpan
  have := (List.takeWhile_sublist pxIsCh (l := s.drop p.toNat)).length_le
  rw [List.length_drop] at this
  omega
theorem pxMask_0 (s : List Int) (p : Int) : (pxMask (pxSpan s p) 0 = 0) = (pxSpan s p = []) := by
  apply propext
  constructor
  · intro e
    cases hw : pxSpan s p with
    | nil => rfl
    | cons d w =>
      have hd := pxSpan_ch (s := s) (p := p) d (by rw [hw]; exact List.mem_cons_self)
      have := pxMask_bs hd (pxSpan s p) 0 pxSpan_ch
      rw [e, pxBs_0, hw] at this
      simp at this
  · intro e; rw [e]; rfl
section
variable {b : Nat} {s : List Int}
theorem s_X6_readPlain_b80 {x2 : Int32} : ∀ (m N : Nat) (h : jw_H) (p st : Int) (mask : Int64), (pxSpan s p).length = m → m < N → pxPG h b s → pxM h 10 5 = p → 0 ≤ p → st ≤ p → 0 ≤ st →
    f_X6_readPlain_b80 N h 10 x2 mask (pxJ st) = g_X6_readPlain_b125 (pxPl h (p + m)) 10 x2 (pxMask (pxSpan s p) mask) := by
  intro m
  induction m with
  | zero =>
    intro N h p st mask hm hN G hp h0 hst hs0
    obtain ⟨N, rfl, -⟩ := px_fu hN
    have hw : pxSpan s p = [] := List.eq_nil_of_length_eq_zero hm
    have hc : ¬ pxIsCh (pxP s p) = true := fun q => by rw [pxSpan_c h0 q] at hw; cases hw
    have pk := s_X6_peek G hp h0
    have hin := pxP_in G.2.2.2.2.1 p
    have bo := px_bitOf (h := h) (c := pxP s p) (by omega) (by omega)
    have t0 := G.1.1
    have n60 := G.2.2.2.2.1.1
    have hr := pxM_hi h 10 5
    rw [u_X6_readPlain_b80, hw]
    unfold g_X6_readPlain_b80
    rw [show p + ((0 : Nat) : Int) = p by omega, pxPl_id hp]
    by_cases h6 : 60 < st
    · simp (disch := first | assumption | omega | (simp only [jw_t_I, px_cpt]; done) | (simp only [jw_t_I, px_cpt]; omega)) only [pxL0, pxL1, pxL2, pxL3, pxL4, pxL5, pxL6, pxL7, pxL8, pxL9, pxL10, pxL11, pxL12, pxL13, pxL14, pxL15, pxL16, pxL17, pxL18, pxL19, pxL20, pxL21, pxL22, pxL23, pxL24, pxL25, pxL26, pxL27, pxL28, pxL29, pxL30, pxL31, pxL32, pxL33, pxL34, pxL35, pxL36, pxL37, pxL38, pxL39, pxL40, pxL41, pxL42, pxL43, pxL44, pxL45, pxL46, pxL47, pxL48, pxL49, pxL51, pxL57, pxL58, pxL59, pxL60, pxL61, pxL62, pxL63, pxL64, pxL65, pxL66, pxL67, pxL68, pxL69, pxL70, pxL71, pxL72, pxL73, pxL74, pxL75, pxL76, pxL77, pxL78, pxL79, pxL80, pxL81, pxL82, pxL83, pxL84, pxL85, pxL86, pxL87, pxL88, pxL89, pxL90, pxL91, pxL92, pxL93, pxL94, pxL95, pxL96, pxL97, pxL98, pxL99, pxL100, pxL101, pxL102, pxL103, pxL104, pxL105, pxL106, pxL107, pxL108, pxL109, pxL110, pxL111, pxL112, pxL113, pxL114, pxL115, pxL116, pxL117, pxL118, pxL119, pxL120, pxL121, pxL122, pxL123, pxL124, pxL125, pxL126, pxL200, pxL240, pxL287, pxL388, pxL400, pxL429, pxL431, pxL440, pxL1240, pxL1600, pxL1681, pxL12028, pxL13849, pxL14880, pxL25173, pxL26908, pxL49600, pxL65535, pxL65536, ↓reduceIte, pxJ_add, pxJ_sub, pxJ_mul, pxJ_neg, pxD_lt_t, pxD_lt_f, pxD_le_t, pxD_le_f, pxD_eq_t, pxD_eq_f, pxJ_lt, pxJ_le, pxJ_eq, px_gI, px_gR, px_pI, px_rc, px_ai, px_ar, px_si, px_ln, px_cp, pxJ_div, pxJ_b8, pxJ_byte, px_b2, px_bs, px_rb0, px_rb1, px_min, px_max, px_compare, pxW_some, jw_t_I, px_cpt, jw_r_I, px_cpr, jw_l_I, px_cpl, Option.some.injEq]
      rfl
    · simp (disch := first | assumption | omega | (simp only [jw_t_I, px_cpt]; done) | (simp only [jw_t_I, px_cpt]; omega)) only [pxL0, pxL1, pxL2, pxL3, pxL4, pxL5, pxL6, pxL7, pxL8, pxL9, pxL10, pxL11, pxL12, pxL13, pxL14, pxL15, pxL16, pxL17, pxL18, pxL19, pxL20, pxL21, pxL22, pxL23, pxL24, pxL25, pxL26, pxL27, pxL28, pxL29, pxL30, pxL31, pxL32, pxL33, pxL34, pxL35, pxL36, pxL37, pxL38, pxL39, pxL40, pxL41, pxL42, pxL43, pxL44, pxL45, pxL46, pxL47, pxL48, pxL49, pxL51, pxL57, pxL58, pxL59, pxL60, pxL61, pxL62, pxL63, pxL64, pxL65, pxL66, pxL67, pxL68, pxL69, pxL70, pxL71, pxL72, pxL73, pxL74, pxL75, pxL76, pxL77, pxL78, pxL79, pxL80, pxL81, pxL82, pxL83, pxL84, pxL85, pxL86, pxL87, pxL88, pxL89, pxL90, pxL91, pxL92, pxL93, pxL94, pxL95, pxL96, pxL97, pxL98, pxL99, pxL100, pxL101, pxL102, pxL103, pxL104, pxL105, pxL106, pxL107, pxL108, pxL109, pxL110, pxL111, pxL112, pxL113, pxL114, pxL115, pxL116, pxL117, pxL118, pxL119, pxL120, pxL121, pxL122, pxL123, pxL124, pxL125, pxL126, pxL200, pxL240, pxL287, pxL388, pxL400, pxL429, pxL431, pxL440, pxL1240, pxL1600, pxL1681, pxL12028, pxL13849, pxL14880, pxL25173, pxL26908, pxL49600, pxL65535, pxL65536, ↓reduceIte, pxJ_add, pxJ_sub, pxJ_mul, pxJ_neg, pxD_lt_t, pxD_lt_f, pxD_le_t, pxD_le_f, pxD_eq_t, pxD_eq_f, pxJ_lt, pxJ_le, pxJ_eq, px_gI, px_gR, px_pI, px_rc, px_ai, px_ar, px_si, px_ln, px_cp, pxJ_div, pxJ_b8, pxJ_byte, px_b2, px_bs, px_rb0, px_rb1, px_min, px_max, px_compare, pxW_some, jw_t_I, px_cpt, jw_r_I, px_cpr, jw_l_I, px_cpl, Option.some.injEq, pk, bo, px_cmp0, pxBit_z hc]
      rfl
  | succ m ih =>
    intro N h p st mask hm hN G hp h0 hst hs0
    obtain ⟨N, rfl, hN⟩ := px_fu hN
    have hc : pxIsCh (pxP s p) = true := Classical.byContradiction fun q => by rw [pxSpan_n h0 q] at hm; cases hm
    have hw := pxSpan_c h0 hc
    have pk := s_X6_peek G hp h0
    have hin := pxP_in G.2.2.2.2.1 p
    have hch := pxIsCh_i.mp hc
    have bo := px_bitOf (h := h) (c := pxP s p) (by omega) (by omega)
    have t0 := G.1.1
    have n60 := G.2.2.2.2.1.1
    have := ih N (pxPl h (p + 1)) (p + 1) (st + 1) (mask ||| pxBit (pxP s p)) (by rw [hw] at hm; simpa using hm) (by omega) (pxPl_G G) (pxPl_p (by omega) (by omega)) (by omega) (by omega) (by omega)
    rw [u_X6_readPlain_b80, hw]
    unfold g_X6_readPlain_b80
    have e1 : jw_setI h 10 5 (pxJ (p + 1)) = pxPl h (p + 1) := rfl
    simp (disch := first | assumption | omega | (simp only [jw_t_I, px_cpt]; done) | (simp only [jw_t_I, px_cpt]; omega)) only [pxL0, pxL1, pxL2, pxL3, pxL4, pxL5, pxL6, pxL7, pxL8, pxL9, pxL10, pxL11, pxL12, pxL13, pxL14, pxL15, pxL16, pxL17, pxL18, pxL19, pxL20, pxL21, pxL22, pxL23, pxL24, pxL25, pxL26, pxL27, pxL28, pxL29, pxL30, pxL31, pxL32, pxL33, pxL34, pxL35, pxL36, pxL37, pxL38, pxL39, pxL40, pxL41, pxL42, pxL43, pxL44, pxL45, pxL46, pxL47, pxL48, pxL49, pxL51, pxL57, pxL58, pxL59, pxL60, pxL61, pxL62, pxL63, pxL64, pxL65, pxL66, pxL67, pxL68, pxL69, pxL70, pxL71, pxL72, pxL73, pxL74, pxL75, pxL76, pxL77, pxL78, pxL79, pxL80, pxL81, pxL82, pxL83, pxL84, pxL85, pxL86, pxL87, pxL88, pxL89, pxL90, pxL91, pxL92, pxL93, pxL94, pxL95, pxL96, pxL97, pxL98, pxL99, pxL100, pxL101, pxL102, pxL103, pxL104, pxL105, pxL106, pxL107, pxL108, pxL109, pxL110, pxL111, pxL112, pxL113, pxL114, pxL115, pxL116, pxL117, pxL118, pxL119, pxL120, pxL121, pxL122, pxL123, pxL124, pxL125, pxL126, pxL200, pxL240, pxL287, pxL388, pxL400, pxL429, pxL431, pxL440, pxL1240, pxL1600, pxL1681, pxL12028, pxL13849, pxL14880, pxL25173, pxL26908, pxL49600, pxL65535, pxL65536, ↓reduceIte, pxJ_add, pxJ_sub, pxJ_mul, pxJ_neg, pxD_lt_t, pxD_lt_f, pxD_le_t, pxD_le_f, pxD_eq_t, pxD_eq_f, pxJ_lt, pxJ_le, pxJ_eq, px_gI, px_gR, px_pI, px_rc, px_ai, px_ar, px_si, px_ln, px_cp, pxJ_div, pxJ_b8, pxJ_byte, px_b2, px_bs, px_rb0, px_rb1, px_min, px_max, px_compare, pxW_some, jw_t_I, px_cpt, jw_r_I, px_cpr, jw_l_I, px_cpl, Option.some.injEq, pk, bo, px_cmp0, pxBit_ne hc, hp, e1, this, pxPl_2]
    rw [show p + 1 + (m : Int) = p + ((m + 1 : Nat) : Int) by omega]
    rfl
theorem pxAe_G {h : jw_H} {e kind : Int} {v : Int64} (G : pxPG h b s) (e0 : 0 ≤ e) : pxPG (pxAe h e kind v) b s := G.fe (pxAe_F e0)
/-- a plain item -/
theorem s_X6_readPlain {h : jw_H} {p e t : Int} (G : pxPG h b s) (hp : pxM h 10 5 = p) (h0 : 0 ≤ p) (he : pxM h 10 7 = e) (e0 : 0 ≤ e) (e1 : e < 120) (ht : pxM h 10 8 = t) (t1 : 0 ≤ t) (t2 : t ≤ 100) :
    (pxP s p = 42 → ∃ h', f_X6_readPlain h 10 = some (pxJ 1, h') ∧ pxF (pxQe e) h h' ∧ pxM h' 10 5 = p + 1 ∧ pxM h' 10 7 = e + 1 ∧ pxM h' 10 8 = t + 1 ∧ pxM h' 10 9 = pxM h 10 9 ∧ pxEl s (3, 0) (pxM h' 252 e.toNat) (jw_l h' 253 e.toNat)) ∧
    (pxP s p = 46 → ∃ h', f_X6_readPlain h 10 = some (pxJ 1, h') ∧ pxF (pxQe e) h h' ∧ pxM h' 10 5 = p + 1 ∧ pxM h' 10 7 = e + 1 ∧ pxM h' 10 8 = t ∧ pxM h' 10 9 = pxM h 10 9 ∧ pxEl s (2, 46) (pxM h' 252 e.toNat) (jw_l h' 253 e.toNat)) ∧
    (pxIsCh (pxP s p) = true → ∃ h', f_X6_readPlain h 10 = some (pxJ 1, h') ∧ pxF (pxQe e) h h' ∧ pxM h' 10 5 = p + 1 ∧ pxM h' 10 7 = e + 1 ∧ pxM h' 10 8 = t ∧ pxM h' 10 9 = pxM h 10 9 ∧ pxEl s (1, pxP s p) (pxM h' 252 e.toNat) (jw_l h' 253 e.toNat)) ∧
    (pxP s p = 91 → (pxCls s (p + 1)).1 = true → ∃ h', f_X6_readPlain h 10 = some (pxJ 1, h') ∧ pxF (pxQe e) h h' ∧ pxM h' 10 5 = (pxCls s (p + 1)).2 ∧ pxM h' 10 7 = e + 1 ∧ pxM h' 10 8 = t ∧ pxM h' 10 9 = pxM h 10 9 ∧ pxEl s (4, p + 1) (pxM h' 252 e.toNat) (jw_l h' 253 e.toNat)) ∧
    (pxP s p = 91 → (pxCls s (p + 1)).1 = false → ∃ h', f_X6_readPlain h 10 = some (pxJ 0, h') ∧ pxF (pxQe e) h h' ∧ pxM h' 10 5 = (pxCls s (p + 1)).2) := by
  have pk := s_X6_peek G hp h0
  have hin := pxP_in G.2.2.2.2.1 p
  have t0 := G.1.1
  have n60 := G.2.2.2.2.1.1
  have hr := pxM_hi h 10 5
  have ee : jw_setI h 10 5 (pxJ (p + 1)) = pxPl h (p + 1) := rfl
  have G1 : pxPG (pxPl h (p + 1)) b s := pxPl_G G
  have t0' : (jw_t (pxPl h (p + 1)) 10).1 = 6 := t0
  have he1 : pxM (pxPl h (p + 1)) 10 7 = e := by rw [pxPl_n (by omega)]; exact he
  have ht1 : pxM (pxPl h (p + 1)) 10 8 = t := by rw [pxPl_n (by omega)]; exact ht
  have FQ : pxF (pxQe e) h (pxPl h (p + 1)) := pxPl_F.mono (fun k f q => by unfold pxQe; omega)
  refine ⟨fun hc => ?_, fun hc => ?_, fun hc => ?_, fun hc ho => ?_, fun hc ho => ?_⟩
  · have G2 : pxPG (jw_setI (pxPl h (p + 1)) 10 8 (pxJ (t + 1))) b s := G1.fr (P := fun k f => k = 10 ∧ f = 8) (pxF.setI ⟨rfl, rfl⟩) (fun k f q => by omega)
    have he2 : pxM (jw_setI (pxPl h (p + 1)) 10 8 (pxJ (t + 1))) 10 7 = e := by rw [pxM_ne (by omega)]; exact he1
    have ae := s_X6_addElement G2.1 (kind := 1) he2 e0 e1 0
    refine ⟨pxAe (jw_setI (pxPl h (p + 1)) 10 8 (pxJ (t + 1))) e 1 0, ?_, (FQ.trans (pxF.setI (by unfold pxQe; omega))).trans (pxAe_F e0), ?_, pxAe_e e0 (by omega), ?_, ?_, ?_⟩
    · unfold f_X6_readPlain
      simp (disch := first | assumption | omega | (simp only [jw_t_I, px_cpt]; done) | (simp only [jw_t_I, px_cpt]; omega)) only [pxL0, pxL1, pxL2, pxL3, pxL4, pxL5, pxL6, pxL7, pxL8, pxL9, pxL10, pxL11, pxL12, pxL13, pxL14, pxL15, pxL16, pxL17, pxL18, pxL19, pxL20, pxL21, pxL22, pxL23, pxL24, pxL25, pxL26, pxL27, pxL28, pxL29, pxL30, pxL31, pxL32, pxL33, pxL34, pxL35, pxL36, pxL37, pxL38, pxL39, pxL40, pxL41, pxL42, pxL43, pxL44, pxL45, pxL46, pxL47, pxL48, pxL49, pxL51, pxL57, pxL58, pxL59, pxL60, pxL61, pxL62, pxL63, pxL64, pxL65, pxL66, pxL67, pxL68, pxL69, pxL70, pxL71, pxL72, pxL73, pxL74, pxL75, pxL76, pxL77, pxL78, pxL79, pxL80, pxL81, pxL82, pxL83, pxL84, pxL85, pxL86, pxL87, pxL88, pxL89, pxL90, pxL91, pxL92, pxL93, pxL94, pxL95, pxL96, pxL97, pxL98, pxL99, pxL100, pxL101, pxL102, pxL103, pxL104, pxL105, pxL106, pxL107, pxL108, pxL109, pxL110, pxL111, pxL112, pxL113, pxL114, pxL115, pxL116, pxL117, pxL118, pxL119, pxL120, pxL121, pxL122, pxL123, pxL124, pxL125, pxL126, pxL200, pxL240, pxL287, pxL388, pxL400, pxL429, pxL431, pxL440, pxL1240, pxL1600, pxL1681, pxL12028, pxL13849, pxL14880, pxL25173, pxL26908, pxL49600, pxL65535, pxL65536, ↓reduceIte, pxJ_add, pxJ_sub, pxJ_mul, pxJ_neg, pxD_lt_t, pxD_lt_f, pxD_le_t, pxD_le_f, pxD_eq_t, pxD_eq_f, pxJ_lt, pxJ_le, pxJ_eq, px_gI, px_gR, px_pI, px_rc, px_ai, px_ar, px_si, px_ln, px_cp, pxJ_div, pxJ_b8, pxJ_byte, px_b2, px_bs, px_rb0, px_rb1, px_min, px_max, px_compare, pxW_some, jw_t_I, px_cpt, jw_r_I, px_cpr, jw_l_I, px_cpl, Option.some.injEq, pk, hp, ee, hc, ht1, ae]
    · rw [pxAe_n (by omega), pxM_ne (by omega), pxPl_p (by omega) (by omega)]
    · rw [pxAe_n (by omega), pxM_eq (by omega) (by omega)]
    · rw [pxAe_n (by omega), pxM_ne (by omega), pxPl_n (by omega)]
    · right; left; exact ⟨rfl, pxAe_k (by omega) (by omega)⟩
  · have ae := s_X6_addElement G1.1 (kind := 0) he1 e0 e1 137438953471
    refine ⟨pxAe (pxPl h (p + 1)) e 0 137438953471, ?_, FQ.trans (pxAe_F e0), ?_, pxAe_e e0 (by omega), ?_, ?_, ?_⟩
    · unfold f_X6_readPlain g_X6_readPlain_b63
      simp (disch := first | assumption | omega | (simp only [jw_t_I, px_cpt]; done) | (simp only [jw_t_I, px_cpt]; omega)) only [pxL0, pxL1, pxL2, pxL3, pxL4, pxL5, pxL6, pxL7, pxL8, pxL9, pxL10, pxL11, pxL12, pxL13, pxL14, pxL15, pxL16, pxL17, pxL18, pxL19, pxL20, pxL21, pxL22, pxL23, pxL24, pxL25, pxL26, pxL27, pxL28, pxL29, pxL30, pxL31, pxL32, pxL33, pxL34, pxL35, pxL36, pxL37, pxL38, pxL39, pxL40, pxL41, pxL42, pxL43, pxL44, pxL45, pxL46, pxL47, pxL48, pxL49, pxL51, pxL57, pxL58, pxL59, pxL60, pxL61, pxL62, pxL63, pxL64, pxL65, pxL66, pxL67, pxL68, pxL69, pxL70, pxL71, pxL72, pxL73, pxL74, pxL75, pxL76, pxL77, pxL78, pxL79, pxL80, pxL81, pxL82, pxL83, pxL84, pxL85, pxL86, pxL87, pxL88, pxL89, pxL90, pxL91, pxL92, pxL93, pxL94, pxL95, pxL96, pxL97, pxL98, pxL99, pxL100, pxL101, pxL102, pxL103, pxL104, pxL105, pxL106, pxL107, pxL108, pxL109, pxL110, pxL111, pxL112, pxL113, pxL114, pxL115, pxL116, pxL117, pxL118, pxL119, pxL120, pxL121, pxL122, pxL123, pxL124, pxL125, pxL126, pxL200, pxL240, pxL287, pxL388, pxL400, pxL429, pxL431, pxL440, pxL1240, pxL1600, pxL1681, pxL12028, pxL13849, pxL14880, pxL25173, pxL26908, pxL49600, pxL65535, pxL65536, ↓reduceIte, pxJ_add, pxJ_sub, pxJ_mul, pxJ_neg, pxD_lt_t, pxD_lt_f, pxD_le_t, pxD_le_f, pxD_eq_t, pxD_eq_f, pxJ_lt, pxJ_le, pxJ_eq, px_gI, px_gR, px_pI, px_rc, px_ai, px_ar, px_si, px_ln, px_cp, pxJ_div, pxJ_b8, pxJ_byte, px_b2, px_bs, px_rb0, px_rb1, px_min, px_max, px_compare, pxW_some, jw_t_I, px_cpt, jw_r_I, px_cpr, jw_l_I, px_cpl, Option.some.injEq, pk, hp, ee, hc, ae]
    · rw [pxAe_n (by omega), pxPl_p (by omega) (by omega)]
    · rw [pxAe_n (by omega)]; exact ht1
    · rw [pxAe_n (by omega), pxPl_n (by omega)]
    · left; refine ⟨Or.inr (Or.inl rfl), pxAe_k (by omega) (by omega), fun c hc => ?_⟩
      rw [pxAe_v, pxBs_all hc]
      exact ⟨fun _ => Or.inl rfl, fun _ => rfl⟩
  · have hch := pxIsCh_i.mp hc
    have bo := px_bitOf (h := pxPl h (p + 1)) (c := pxP s p) (by omega) (by omega)
    have ae := s_X6_addElement G1.1 (kind := 0) he1 e0 e1 (pxBit (pxP s p))
    refine ⟨pxAe (pxPl h (p + 1)) e 0 (pxBit (pxP s p)), ?_, FQ.trans (pxAe_F e0), ?_, pxAe_e e0 (by omega), ?_, ?_, ?_⟩
    · unfold f_X6_readPlain g_X6_readPlain_b63
      simp (disch := first | assumption | omega | (simp only [jw_t_I, px_cpt]; done) | (simp only [jw_t_I, px_cpt]; omega)) only [pxL0, pxL1, pxL2, pxL3, pxL4, pxL5, pxL6, pxL7, pxL8, pxL9, pxL10, pxL11, pxL12, pxL13, pxL14, pxL15, pxL16, pxL17, pxL18, pxL19, pxL20, pxL21, pxL22, pxL23, pxL24, pxL25, pxL26, pxL27, pxL28, pxL29, pxL30, pxL31, pxL32, pxL33, pxL34, pxL35, pxL36, pxL37, pxL38, pxL39, pxL40, pxL41, pxL42, pxL43, pxL44, pxL45, pxL46, pxL47, pxL48, pxL49, pxL51, pxL57, pxL58, pxL59, pxL60, pxL61, pxL62, pxL63, pxL64, pxL65, pxL66, pxL67, pxL68, pxL69, pxL70, pxL71, pxL72, pxL73, pxL74, pxL75, pxL76, pxL77, pxL78, pxL79, pxL80, pxL81, pxL82, pxL83, pxL84, pxL85, pxL86, pxL87, pxL88, pxL89, pxL90, pxL91, pxL92, pxL93, pxL94, pxL95, pxL96, pxL97, pxL98, pxL99, pxL100, pxL101, pxL102, pxL103, pxL104, pxL105, pxL106, pxL107, pxL108, pxL109, pxL110, pxL111, pxL112, pxL113, pxL114, pxL115, pxL116, pxL117, pxL118, pxL119, pxL120, pxL121, pxL122, pxL123, pxL124, pxL125, pxL126, pxL200, pxL240, pxL287, pxL388, pxL400, pxL429, pxL431, pxL440, pxL1240, pxL1600, pxL1681, pxL12028, pxL13849, pxL14880, pxL25173, pxL26908, pxL49600, pxL65535, pxL65536, ↓reduceIte, pxJ_add, pxJ_sub, pxJ_mul, pxJ_neg, pxD_lt_t, pxD_lt_f, pxD_le_t, pxD_le_f, pxD_eq_t, pxD_eq_f, pxJ_lt, pxJ_le, pxJ_eq, px_gI, px_gR, px_pI, px_rc, px_ai, px_ar, px_si, px_ln, px_cp, pxJ_div, pxJ_b8, pxJ_byte, px_b2, px_bs, px_rb0, px_rb1, px_min, px_max, px_compare, pxW_some, jw_t_I, px_cpt, jw_r_I, px_cpr, jw_l_I, px_cpl, Option.some.injEq, pk, hp, ee, bo, ae]
    · rw [pxAe_n (by omega), pxPl_p (by omega) (by omega)]
    · rw [pxAe_n (by omega)]; exact ht1
    · rw [pxAe_n (by omega), pxPl_n (by omega)]
    · left; refine ⟨Or.inl rfl, pxAe_k (by omega) (by omega), fun c hcc => ?_⟩
      rw [pxAe_v, pxBs_bit hcc hc, decide_eq_true_iff]
      unfold pxHas
      constructor
      · intro q; exact Or.inr (Or.inl ⟨rfl, q⟩)
      · rintro (q | ⟨-, q⟩ | ⟨q, -⟩)
        · exact absurd q (by simp)
        · exact q
        · exact absurd q (by simp)
  all_goals
    have hp1 : pxM (pxPl h (p + 1)) 10 5 = p + 1 := pxPl_p (by omega) (by omega)
    have ps := s_X6_pass G1 hp1 (by omega) (c := 94) (by omega) (by omega)
    rw [pxPl_2] at ps
    have hcl0 : (if pxP s (p + 1) = 94 then p + 1 + 1 else p + 1) = pxCl0 s (p + 1) := rfl
    rw [hcl0] at ps
    have c0b : p + 1 ≤ pxCl0 s (p + 1) ∧ pxCl0 s (p + 1) ≤ p + 2 := by unfold pxCl0; split <;> omega
    have lp := s_X6_readPlain_b80 (b := b) (s := s) (x2 := pxJ (if pxP s (p + 1) = 94 then 1 else 0)) (pxSpan s (pxCl0 s (p + 1))).length jw_FU (pxPl h (pxCl0 s (p + 1))) (pxCl0 s (p + 1)) 0 0 rfl (by
      have q1 := (List.takeWhile_sublist pxIsCh (l := s.drop (pxCl0 s (p + 1)).toNat)).length_le
      rw [List.length_drop] at q1
      unfold pxSpan jw_FU; omega) (pxPl_G G) (pxPl_p (by omega) (by omega)) (by omega) (by omega) (by omega)
    rw [pxPl_2, show pxCl0 s (p + 1) + ((pxSpan s (pxCl0 s (p + 1))).length : Int) = pxCl1 s (p + 1) from rfl] at lp
    have hsl : (pxSpan s (pxCl0 s (p + 1))).length ≤ 60 := by
      have q1 := (List.takeWhile_sublist pxIsCh (l := s.drop (pxCl0 s (p + 1)).toNat)).length_le
      rw [List.length_drop] at q1
      unfold pxSpan; omega
    have c1b : p + 1 ≤ pxCl1 s (p + 1) ∧ pxCl1 s (p + 1) ≤ p + 62 := by unfold pxCl1; omega
    have G3 : pxPG (pxPl h (pxCl1 s (p + 1))) b s := pxPl_G G
    have hp3 : pxM (pxPl h (pxCl1 s (p + 1))) 10 5 = pxCl1 s (p + 1) := pxPl_p (by omega) (by omega)
    have ps3 := s_X6_pass G3 hp3 (by omega) (c := 93) (by omega) (by omega)
    rw [pxPl_2] at ps3
    have st : f_X6_readPlain h 10 = g_X6_readPlain_b125 (pxPl h (pxCl1 s (p + 1))) 10 (pxJ (if pxP s (p + 1) = 94 then 1 else 0)) (pxMask (pxSpan s (pxCl0 s (p + 1))) 0) := by
      unfold f_X6_readPlain
      simp (disch := first | assumption | omega | (simp only [jw_t_I, px_cpt]; done) | (simp only [jw_t_I, px_cpt]; omega)) only [pxL0, pxL1, pxL2, pxL3, pxL4, pxL5, pxL6, pxL7, pxL8, pxL9, pxL10, pxL11, pxL12, pxL13, pxL14, pxL15, pxL16, pxL17, pxL18, pxL19, pxL20, pxL21, pxL22, pxL23, pxL24, pxL25, pxL26, pxL27, pxL28, pxL29, pxL30, pxL31, pxL32, pxL33, pxL34, pxL35, pxL36, pxL37, pxL38, pxL39, pxL40, pxL41, pxL42, pxL43, pxL44, pxL45, pxL46, pxL47, pxL48, pxL49, pxL51, pxL57, pxL58, pxL59, pxL60, pxL61, pxL62, pxL63, pxL64, pxL65, pxL66, pxL67, pxL68, pxL69, pxL70, pxL71, pxL72, pxL73, pxL74, pxL75, pxL76, pxL77, pxL78, pxL79, pxL80, pxL81, pxL82, pxL83, pxL84, pxL85, pxL86, pxL87, pxL88, pxL89, pxL90, pxL91, pxL92, pxL93, pxL94, pxL95, pxL96, pxL97, pxL98, pxL99, pxL100, pxL101, pxL102, pxL103, pxL104, pxL105, pxL106, pxL107, pxL108, pxL109, pxL110, pxL111, pxL112, pxL113, pxL114, pxL115, pxL116, pxL117, pxL118, pxL119, pxL120, pxL121, pxL122, pxL123, pxL124, pxL125, pxL126, pxL200, pxL240, pxL287, pxL388, pxL400, pxL429, pxL431, pxL440, pxL1240, pxL1600, pxL1681, pxL12028, pxL13849, pxL14880, pxL25173, pxL26908, pxL49600, pxL65535, pxL65536, ↓reduceIte, pxJ_add, pxJ_sub, pxJ_mul, pxJ_neg, pxD_lt_t, pxD_lt_f, pxD_le_t, pxD_le_f, pxD_eq_t, pxD_eq_f, pxJ_lt, pxJ_le, pxJ_eq, px_gI, px_gR, px_pI, px_rc, px_ai, px_ar, px_si, px_ln, px_cp, pxJ_div, pxJ_b8, pxJ_byte, px_b2, px_bs, px_rb0, px_rb1, px_min, px_max, px_compare, pxW_some, jw_t_I, px_cpt, jw_r_I, px_cpr, jw_l_I, px_cpl, Option.some.injEq, pk, hp, ee, hc, ps, lp]
    have t3 : (jw_t (pxPl h (pxCl1 s (p + 1))) 10).1 = 6 := t0
    have hm0 := pxMask_0 s (pxCl0 s (p + 1))
    rw [st]
    unfold g_X6_readPlain_b125 g_X6_readPlain_b161
    unfold pxCls at ho ⊢
  · by_cases hn : pxSpan s (pxCl0 s (p + 1)) = []
    · rw [if_pos hn] at ho; cases ho
    · rw [if_neg hn] at ho ⊢
      by_cases h93 : pxP s (pxCl1 s (p + 1)) = 93
      · rw [if_pos h93] at ho ⊢
        simp only [if_pos h93] at ps3
        have hn' : (pxSpan s (pxCl0 s (p + 1)) = []) = False := eq_false hn
        have G4 : pxPG (pxPl h (pxCl1 s (p + 1) + 1)) b s := pxPl_G G
        have he4 : pxM (pxPl h (pxCl1 s (p + 1) + 1)) 10 7 = e := by rw [pxPl_n (by omega)]; exact he
        have t4 : (jw_t (pxPl h (pxCl1 s (p + 1) + 1)) 10).1 = 6 := t0
        have F4 : pxF (pxQe e) h (pxPl h (pxCl1 s (p + 1) + 1)) := pxPl_F.mono (fun k f q => by unfold pxQe; omega)
        by_cases h94 : pxP s (p + 1) = 94
        · have ae := s_X6_addElement G4.1 (kind := 0) he4 e0 e1 (137438953471 &&& (pxMask (pxSpan s (pxCl0 s (p + 1))) 0 ^^^ (-1)))
          refine ⟨pxAe (pxPl h (pxCl1 s (p + 1) + 1)) e 0 (137438953471 &&& (pxMask (pxSpan s (pxCl0 s (p + 1))) 0 ^^^ (-1))), ?_, F4.trans (pxAe_F e0), ?_, pxAe_e e0 (by omega), ?_, ?_, ?_⟩
          · simp only [if_pos h94]
            simp (disch := first | assumption | omega | (simp only [jw_t_I, px_cpt]; done) | (simp only [jw_t_I, px_cpt]; omega)) only [pxL0, pxL1, pxL2, pxL3, pxL4, pxL5, pxL6, pxL7, pxL8, pxL9, pxL10, pxL11, pxL12, pxL13, pxL14, pxL15, pxL16, pxL17, pxL18, pxL19, pxL20, pxL21, pxL22, pxL23, pxL24, pxL25, pxL26, pxL27, pxL28, pxL29, pxL30, pxL31, pxL32, pxL33, pxL34, pxL35, pxL36, pxL37, pxL38, pxL39, pxL40, pxL41, pxL42, pxL43, pxL44, pxL45, pxL46, pxL47, pxL48, pxL49, pxL51, pxL57, pxL58, pxL59, pxL60, pxL61, pxL62, pxL63, pxL64, pxL65, pxL66, pxL67, pxL68, pxL69, pxL70, pxL71, pxL72, pxL73, pxL74, pxL75, pxL76, pxL77, pxL78, pxL79, pxL80, pxL81, pxL82, pxL83, pxL84, pxL85, pxL86, pxL87, pxL88, pxL89, pxL90, pxL91, pxL92, pxL93, pxL94, pxL95, pxL96, pxL97, pxL98, pxL99, pxL100, pxL101, pxL102, pxL103, pxL104, pxL105, pxL106, pxL107, pxL108, pxL109, pxL110, pxL111, pxL112, pxL113, pxL114, pxL115, pxL116, pxL117, pxL118, pxL119, pxL120, pxL121, pxL122, pxL123, pxL124, pxL125, pxL126, pxL200, pxL240, pxL287, pxL388, pxL400, pxL429, pxL431, pxL440, pxL1240, pxL1600, pxL1681, pxL12028, pxL13849, pxL14880, pxL25173, pxL26908, pxL49600, pxL65535, pxL65536, ↓reduceIte, pxJ_add, pxJ_sub, pxJ_mul, pxJ_neg, pxD_lt_t, pxD_lt_f, pxD_le_t, pxD_le_f, pxD_eq_t, pxD_eq_f, pxJ_lt, pxJ_le, pxJ_eq, px_gI, px_gR, px_pI, px_rc, px_ai, px_ar, px_si, px_ln, px_cp, pxJ_div, pxJ_b8, pxJ_byte, px_b2, px_bs, px_rb0, px_rb1, px_min, px_max, px_compare, pxW_some, jw_t_I, px_cpt, jw_r_I, px_cpr, jw_l_I, px_cpl, Option.some.injEq, px_cmp0, hm0, hn', ps3, ae]
          · rw [pxAe_n (by omega), pxPl_p (by omega) (by omega)]
          · rw [pxAe_n (by omega), pxPl_n (by omega)]; exact ht
          · rw [pxAe_n (by omega), pxPl_n (by omega)]
          · left; refine ⟨Or.inr (Or.inr rfl), pxAe_k (by omega) (by omega), fun c hcc => ?_⟩
            rw [pxAe_v, pxBs_not hcc, pxMask_bs hcc _ _ pxSpan_ch, pxBs_0, Bool.false_or]
            unfold pxHas pxInC
            have d1 : (decide (pxP s (p + 1) = 94)) = true := decide_eq_true h94
            simp only [d1]
            constructor
            · intro q; exact Or.inr (Or.inr ⟨trivial, by simpa using q⟩)
            · rintro (q | ⟨q, -⟩ | ⟨-, q⟩)
              · exact absurd q (by simp)
              · exact absurd q (by simp)
              · simpa using q
        · have ae := s_X6_addElement G4.1 (kind := 0) he4 e0 e1 (pxMask (pxSpan s (pxCl0 s (p + 1))) 0)
          refine ⟨pxAe (pxPl h (pxCl1 s (p + 1) + 1)) e 0 (pxMask (pxSpan s (pxCl0 s (p + 1))) 0), ?_, F4.trans (pxAe_F e0), ?_, pxAe_e e0 (by omega), ?_, ?_, ?_⟩
          · simp only [if_neg h94]
            simp (disch := first | assumption | omega | (simp only [jw_t_I, px_cpt]; done) | (simp only [jw_t_I, px_cpt]; omega)) only [pxL0, pxL1, pxL2, pxL3, pxL4, pxL5, pxL6, pxL7, pxL8, pxL9, pxL10, pxL11, pxL12, pxL13, pxL14, pxL15, pxL16, pxL17, pxL18, pxL19, pxL20, pxL21, pxL22, pxL23, pxL24, pxL25, pxL26, pxL27, pxL28, pxL29, pxL30, pxL31, pxL32, pxL33, pxL34, pxL35, pxL36, pxL37, pxL38, pxL39, pxL40, pxL41, pxL42, pxL43, pxL44, pxL45, pxL46, pxL47, pxL48, pxL49, pxL51, pxL57, pxL58, pxL59, pxL60, pxL61, pxL62, pxL63, pxL64, pxL65, pxL66, pxL67, pxL68, pxL69, pxL70, pxL71, pxL72, pxL73, pxL74, pxL75, pxL76, pxL77, pxL78, pxL79, pxL80, pxL81, pxL82, pxL83, pxL84, pxL85, pxL86, pxL87, pxL88, pxL89, pxL90, pxL91, pxL92, pxL93, pxL94, pxL95, pxL96, pxL97, pxL98, pxL99, pxL100, pxL101, pxL102, pxL103, pxL104, pxL105, pxL106, pxL107, pxL108, pxL109, pxL110, pxL111, pxL112, pxL113, pxL114, pxL115, pxL116, pxL117, pxL118, pxL119, pxL120, pxL121, pxL122, pxL123, pxL124, pxL125, pxL126, pxL200, pxL240, pxL287, pxL388, pxL400, pxL429, pxL431, pxL440, pxL1240, pxL1600, pxL1681, pxL12028, pxL13849, pxL14880, pxL25173, pxL26908, pxL49600, pxL65535, pxL65536, ↓reduceIte, pxJ_add, pxJ_sub, pxJ_mul, pxJ_neg, pxD_lt_t, pxD_lt_f, pxD_le_t, pxD_le_f, pxD_eq_t, pxD_eq_f, pxJ_lt, pxJ_le, pxJ_eq, px_gI, px_gR, px_pI, px_rc, px_ai, px_ar, px_si, px_ln, px_cp, pxJ_div, pxJ_b8, pxJ_byte, px_b2, px_bs, px_rb0, px_rb1, px_min, px_max, px_compare, pxW_some, jw_t_I, px_cpt, jw_r_I, px_cpr, jw_l_I, px_cpl, Option.some.injEq, px_cmp0, hm0, hn', ps3, ae]
          · rw [pxAe_n (by omega), pxPl_p (by omega) (by omega)]
          · rw [pxAe_n (by omega), pxPl_n (by omega)]; exact ht
          · rw [pxAe_n (by omega), pxPl_n (by omega)]
          · left; refine ⟨Or.inr (Or.inr rfl), pxAe_k (by omega) (by omega), fun c hcc => ?_⟩
            rw [pxAe_v, pxMask_bs hcc _ _ pxSpan_ch, pxBs_0, Bool.false_or]
            unfold pxHas pxInC
            have d1 : (decide (pxP s (p + 1) = 94)) = false := decide_eq_false h94
            simp only [d1]
            constructor
            · intro q; exact Or.inr (Or.inr ⟨trivial, by simpa using q⟩)
            · rintro (q | ⟨q, -⟩ | ⟨-, q⟩)
              · exact absurd q (by simp)
              · exact absurd q (by simp)
              · simpa using q
      · rw [if_neg h93] at ho; cases ho
  · by_cases hn : pxSpan s (pxCl0 s (p + 1)) = []
    · rw [if_pos hn]
      have hn' : (pxSpan s (pxCl0 s (p + 1)) = []) = True := eq_true hn
      have e01 : pxCl1 s (p + 1) = pxCl0 s (p + 1) := by unfold pxCl1; rw [hn]; simp
      refine ⟨pxPl h (pxCl1 s (p + 1)), ?_, pxPl_F.mono (fun k f q => by unfold pxQe; omega), by rw [hp3]; exact e01⟩
      simp (disch := first | assumption | omega | (simp only [jw_t_I, px_cpt]; done) | (simp only [jw_t_I, px_cpt]; omega)) only [pxL0, pxL1, pxL2, pxL3, pxL4, pxL5, pxL6, pxL7, pxL8, pxL9, pxL10, pxL11, pxL12, pxL13, pxL14, pxL15, pxL16, pxL17, pxL18, pxL19, pxL20, pxL21, pxL22, pxL23, pxL24, pxL25, pxL26, pxL27, pxL28, pxL29, pxL30, pxL31, pxL32, pxL33, pxL34, pxL35, pxL36, pxL37, pxL38, pxL39, pxL40, pxL41, pxL42, pxL43, pxL44, pxL45, pxL46, pxL47, pxL48, pxL49, pxL51, pxL57, pxL58, pxL59, pxL60, pxL61, pxL62, pxL63, pxL64, pxL65, pxL66, pxL67, pxL68, pxL69, pxL70, pxL71, pxL72, pxL73, pxL74, pxL75, pxL76, pxL77, pxL78, pxL79, pxL80, pxL81, pxL82, pxL83, pxL84, pxL85, pxL86, pxL87, pxL88, pxL89, pxL90, pxL91, pxL92, pxL93, pxL94, pxL95, pxL96, pxL97, pxL98, pxL99, pxL100, pxL101, pxL102, pxL103, pxL104, pxL105, pxL106, pxL107, pxL108, pxL109, pxL110, pxL111, pxL112, pxL113, pxL114, pxL115, pxL116, pxL117, pxL118, pxL119, pxL120, pxL121, pxL122, pxL123, pxL124, pxL125, pxL126, pxL200, pxL240, pxL287, pxL388, pxL400, pxL429, pxL431, pxL440, pxL1240, pxL1600, pxL1681, pxL12028, pxL13849, pxL14880, pxL25173, pxL26908, pxL49600, pxL65535, pxL65536, ↓reduceIte, pxJ_add, pxJ_sub, pxJ_mul, pxJ_neg, pxD_lt_t, pxD_lt_f, pxD_le_t, pxD_le_f, pxD_eq_t, pxD_eq_f, pxJ_lt, pxJ_le, pxJ_eq, px_gI, px_gR, px_pI, px_rc, px_ai, px_ar, px_si, px_ln, px_cp, pxJ_div, pxJ_b8, pxJ_byte, px_b2, px_bs, px_rb0, px_rb1, px_min, px_max, px_compare, pxW_some, jw_t_I, px_cpt, jw_r_I, px_cpr, jw_l_I, px_cpl, Option.some.injEq, px_cmp0, hm0, hn']
    · rw [if_neg hn] at ho ⊢
      by_cases h93 : pxP s (pxCl1 s (p + 1)) = 93
      · rw [if_pos h93] at ho; cases ho
      · rw [if_neg h93] at ho ⊢
        simp only [if_neg h93] at ps3
        have hn' : (pxSpan s (pxCl0 s (p + 1)) = []) = False := eq_false hn
        refine ⟨pxPl h (pxCl1 s (p + 1)), ?_, pxPl_F.mono (fun k f q => by unfold pxQe; omega), hp3⟩
        simp (disch := first | assumption | omega | (simp only [jw_t_I, px_cpt]; done) | (simp only [jw_t_I, px_cpt]; omega)) only [pxL0, pxL1, pxL2, pxL3, pxL4, pxL5, pxL6, pxL7, pxL8, pxL9, pxL10, pxL11, pxL12, pxL13, pxL14, pxL15, pxL16, pxL17, pxL18, pxL19, pxL20, pxL21, pxL22, pxL23, pxL24, pxL25, pxL26, pxL27, pxL28, pxL29, pxL30, pxL31, pxL32, pxL33, pxL34, pxL35, pxL36, pxL37, pxL38, pxL39, pxL40, pxL41, pxL42, pxL43, pxL44, pxL45, pxL46, pxL47, pxL48, pxL49, pxL51, pxL57, pxL58, pxL59, pxL60, pxL61, pxL62, pxL63, pxL64, pxL65, pxL66, pxL67, pxL68, pxL69, pxL70, pxL71, pxL72, pxL73, pxL74, pxL75, pxL76, pxL77, pxL78, pxL79, pxL80, pxL81, pxL82, pxL83, pxL84, pxL85, pxL86, pxL87, pxL88, pxL89, pxL90, pxL91, pxL92, pxL93, pxL94, pxL95, pxL96, pxL97, pxL98, pxL99, pxL100, pxL101, pxL102, pxL103, pxL104, pxL105, pxL106, pxL107, pxL108, pxL109, pxL110, pxL111, pxL112, pxL113, pxL114, pxL115, pxL116, pxL117, pxL118, pxL119, pxL120, pxL121, pxL122, pxL123, pxL124, pxL125, pxL126, pxL200, pxL240, pxL287, pxL388, pxL400, pxL429, pxL431, pxL440, pxL1240, pxL1600, pxL1681, pxL12028, pxL13849, pxL14880, pxL25173, pxL26908, pxL49600, pxL65535, pxL65536, ↓reduceIte, pxJ_add, pxJ_sub, pxJ_mul, pxJ_neg, pxD_lt_t, pxD_lt_f, pxD_le_t, pxD_le_f, pxD_eq_t, pxD_eq_f, pxJ_lt, pxJ_le, pxJ_eq, px_gI, px_gR, px_pI, px_rc, px_ai, px_ar, px_si, px_ln, px_cp, pxJ_div, pxJ_b8, pxJ_byte, px_b2, px_bs, px_rb0, px_rb1, px_min, px_max, px_compare, pxW_some, jw_t_I, px_cpt, jw_r_I, px_cpr, jw_l_I, px_cpl, Option.some.injEq, px_cmp0, hm0, hn', ps3]
end
