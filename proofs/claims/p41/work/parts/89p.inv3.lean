/-! what stays true of text and stores under any act -/
theorem pxSl_or {r : List Int} {a b : Int} (hr : ∀ c ∈ r, pxCh c) : ∀ c ∈ pxSl r a b, pxCh c := fun c hc => hr c (pxSl_mem hc)
theorem pxPw_or {s r : List Int} {a b k : Int} {o c : Int → Int} (hr : ∀ c ∈ r, pxCh c) : ∀ (m : Nat) (q : Int), ∀ x ∈ pxPw s r a b o c k m q, pxCh x
  | 0, _, x, hx => by cases hx
  | m + 1, q, x, hx => by
    unfold pxPw at hx
    by_cases c1 : pxP s q = 92 ∧ 0 < k
    · rw [if_pos c1] at hx
      rcases List.mem_append.mp hx with z | z
      · exact pxSl_or hr x z
      · exact pxPw_or hr m _ x z
    rw [if_neg c1] at hx
    by_cases c2 : pxP s q = 38
    · rw [if_pos c2] at hx
      rcases List.mem_append.mp hx with z | z
      · exact pxSl_or hr x z
      · exact pxPw_or hr m _ x z
    rw [if_neg c2] at hx
    by_cases c3 : pxIsCh (pxP s q) = true
    · rw [if_pos c3] at hx
      rcases List.mem_cons.mp hx with z | z
      · rw [z]; exact pxIsCh_iff.mp c3
      · exact pxPw_or hr m _ x z
    · rw [if_neg c3] at hx; cases hx
theorem pxRp_or {s r : List Int} {l : List (Int × Int)} {num : Int} {pw : Int → Int → (Int → Int) → (Int → Int) → List Int} (hr : ∀ c ∈ r, pxCh c) (hp : ∀ a b o c, ∀ x ∈ pw a b o c, pxCh x) : ∀ (m : Nat) (fi fr : Int) (on : Bool) (cp : Int), ∀ x ∈ (pxRp s r l num pw m fi fr on cp).1, pxCh x
  | 0, _, _, _, cp, x, hx => pxSl_or hr x hx
  | m + 1, fi, fr, on, cp, x, hx => by
    unfold pxRp at hx
    cases hf : pxFind s r l fr on with
    | none => rw [hf] at hx; exact pxSl_or hr x hx
    | some v =>
      rw [hf] at hx
      have hx' : x ∈ (if num = 0 then (pxSl r cp v.1 ++ (pw v.1 v.2.1 v.2.2.1 v.2.2.2 ++ (pxRp s r l num pw m (fi + 1) v.2.1 true v.2.1).1), true) else if num = fi then (pxSl r cp v.1 ++ (pw v.1 v.2.1 v.2.2.1 v.2.2.2 ++ pxSl r v.2.1 r.length), true) else pxRp s r l num pw m (fi + 1) v.2.1 true cp).1 := hx
      by_cases c1 : num = 0
      · rw [if_pos c1] at hx'
        rcases List.mem_append.mp hx' with z | z
        · exact pxSl_or hr x z
        · rcases List.mem_append.mp z with z | z
          · exact hp _ _ _ _ x z
          · exact pxRp_or hr hp m _ _ _ _ x z
      rw [if_neg c1] at hx'
      by_cases c2 : num = fi
      · rw [if_pos c2] at hx'
        rcases List.mem_append.mp hx' with z | z
        · exact pxSl_or hr x z
        · rcases List.mem_append.mp z with z | z
          · exact hp _ _ _ _ x z
          · exact pxSl_or hr x z
      · rw [if_neg c2] at hx'
        exact pxRp_or hr hp m _ _ _ _ x hx'
theorem pxChg_or {s : List Int} {p : Int} {r : List Int} (hr : ∀ c ∈ r, pxCh c) (ok : (pxAct s p).1 = true) (p0 : 0 ≤ p) : ∀ x ∈ (pxChg s p r).1, pxCh x := by
  intro x hx
  unfold pxChg at hx
  by_cases c1 : pxP s p = 62
  · rw [if_pos c1] at hx
    rcases List.mem_append.mp hx with z | z
    · rw [List.eq_of_mem_replicate z]; exact pxCh_32
    · exact hr x z
  rw [if_neg c1] at hx
  by_cases c2 : pxP s p = 115
  · rw [if_pos c2] at hx
    exact pxRp_or hr (fun a b o c => pxPw_or hr 61 _) 31 1 0 false 0 x hx
  rw [if_neg c2] at hx
  by_cases c3 : pxP s p = 122
  · rw [if_pos c3] at hx
    have okT : (pxTrn s (p + 1)).1 = true := by
      unfold pxAct at ok
      rw [c3] at ok; exact ok
    have cc := pxTrn_c okT (by omega)
    have n0 : 0 ≤ pxTrnN s (p + 1) := by unfold pxTrnN; omega
    obtain ⟨y, hy, rfl⟩ := List.mem_map.mp hx
    exact pxTc_ch (hr y hy) _ _ (fun j j0 j1 => by rw [show p + 3 + pxTrnN s (p + 1) + j = p + 1 + 2 + pxTrnN s (p + 1) + j by omega]; exact cc j j0 (by omega))
  · rw [if_neg c3] at hx
    exact pxSl_or hr x hx
theorem pxChgs_ok {s : List Int} {p : Int} (ok : (pxAct s p).1 = true) (p0 : 0 ≤ p) : ∀ (m : Nat) (x : Int) (rs : List (List Int)) (rep : Bool), pxOk rs → pxOk (pxChgs s p m x rs rep).2.1 ∧ (pxChgs s p m x rs rep).2.1.length = rs.length
  | 0, _, rs, _, h => ⟨h, rfl⟩
  | m + 1, x, rs, rep, h => by
    unfold pxChgs
    by_cases d : 30 < (pxChg s p (pxRw rs x)).1.length
    · rw [if_pos d]; exact ⟨h, rfl⟩
    · rw [if_neg d]
      have := pxChgs_ok ok p0 m (x + 1) (pxSet rs x (pxChg s p (pxRw rs x)).1) (rep || (pxChg s p (pxRw rs x)).2) (pxOk_set h ⟨by omega, pxChg_or (pxRw_or h x).2 ok p0⟩)
      exact ⟨this.1, by rw [this.2, pxSet_len]⟩
theorem pxReR_rs {ls : pxLs} {rs : List (List Int)} (h : rs.length = ls.length) : pxRs (pxReR ls rs) = rs := by
  unfold pxRs pxReR
  rw [List.map_snd_zip]
  rw [List.length_map]; omega
theorem pxReR_ids {ls : pxLs} {rs : List (List Int)} (h : rs.length = ls.length) : pxIds (pxReR ls rs) = pxIds ls := by
  unfold pxIds pxReR
  rw [List.map_fst_zip]
  rw [List.length_map]; omega
theorem pxTold_ok {s : List Int} : ∀ (m1 m2 : Nat) (p : Int), (pxRowsE s m1 0 p).1 = true → 0 ≤ p → p ≤ s.length → s.length < p + m1 → pxOk (pxTold s m2 p)
  | _, 0, _, _, _, _, _ => pxOk_nil
  | m1, m2 + 1, p, h, h0, h1, hm => by
    have sl := pxSpan_le (s := s) h0 h1
    obtain ⟨a, b⟩ := pxRowsE_s (pxSpan s p).length m1 0 p rfl h0 (by omega) (by omega) (by omega) h
    have or : pxOr (pxSpan s p) := ⟨by omega, fun c hc => pxIsCh_iff.mp (pxSpan_ch c hc)⟩
    unfold pxTold
    by_cases c : pxP s (p + (pxSpan s p).length) = 124
    · have lt := pxP_lt (s := s) (p := p + (pxSpan s p).length) (by omega)
      rw [if_pos c] at b ⊢
      rw [b] at h
      intro r hr
      rcases List.mem_cons.mp hr with z | z
      · rw [z]; exact or
      · exact pxTold_ok _ m2 _ h (by omega) (by omega) (by omega) r z
    · rw [if_neg c]
      exact pxOk_one or
theorem pxDig_or {n : Int} (h1 : 0 ≤ n) : pxOr (pxDig n) := ⟨by unfold pxDig; split <;> simp, pxDig_ch h1⟩
theorem pxPrint_ok {pre : Int → List Int} {rs : List (List Int)} (ok : pxOk rs) : ∀ (m : Nat) (x : Int) (ou o : List (List Int)), (∀ y, x ≤ y → ∀ c ∈ pre y, pxCh c) → ou.length ≤ 100 → pxOk ou → pxPrint pre rs m x ou = some o → o.length ≤ 100 ∧ pxOk o
  | 0, _, ou, o, _, h1, h2, h => by have e : ou = o := Option.some.inj h; subst e; exact ⟨h1, h2⟩
  | m + 1, x, ou, o, hp, h1, h2, h => by
    unfold pxPrint at h
    by_cases c : (pre x ++ pxRw rs x).length ≤ 30 ∧ ou.length < 100
    · rw [if_pos c] at h
      refine pxPrint_ok ok m (x + 1) _ o (fun y hy => hp y (by omega)) (by rw [List.length_append, List.length_singleton]; omega) (pxOk_app h2 (pxOk_one ⟨c.1, fun d hd => ?_⟩)) h
      rcases List.mem_append.mp hd with z | z
      · exact hp x (Int.le_refl _) d z
      · exact (pxRw_or ok x).2 d z
    · rw [if_neg c] at h; cases h
/-- what is known of an act's outcome -/
def pxGood (T : pxTx) (r : Int × pxTx × pxSto) : Prop := r.1 = 0 → pxInv r.2.1 ∧ r.2.1.2.2.2 ≤ T.2.2.2 + 40 ∧ pxInvS r.2.2
theorem pxInv.setNow {T : pxTx} {l : Int} (H : pxInv T) (l0 : 0 ≤ l) (l1 : l ≤ T.1.length) (l2 : 1 ≤ T.1.length → 1 ≤ l) : pxInv (T.1, T.2.1, l, T.2.2.2) := ⟨H.1, H.2.1, l0, l1, l2, H.2.2.2.2.2.1, H.2.2.2.2.2.2⟩
theorem pxGood_tell {s : List Int} {p f l : Int} {T : pxTx} {S : pxSto} (I : pxInv T) (IS : pxInvS S) (f1 : 1 ≤ f) (fl : f ≤ l + 1) (l1 : l ≤ T.1.length) (ne : pxP s p ≠ 119 → f ≤ l) (dk : pxP s p = 107 → 97 ≤ pxP s (p + 1) ∧ pxP s (p + 1) ≤ 101) : pxGood T (pxSpTell s p f l T S) := by
  obtain ⟨⟨h40, hok⟩, ⟨o100, ook⟩, fk⟩ := IS
  have l40 := I.1
  have ok := I.2.1
  have sl := pxSub_len (l := pxRs T.1) (x := f) (y := l) f1 fl (by rw [pxRs_len]; exact l1)
  unfold pxSpTell
  have pr : ∀ pre : Int → List Int, f ≤ l → (∀ y, f ≤ y → ∀ c ∈ pre y, pxCh c) → pxGood T (pxSpPr pre f l T S) := by
    intro pre fl' hp
    unfold pxSpPr
    cases e : pxPrint pre (pxRs T.1) (l - f + 1).toNat f S.2.1 with
    | none => intro z; exact absurd z (by show ¬ (4 : Int) = 0; omega)
    | some o =>
      intro _
      exact ⟨I.setNow (by omega) l1 (by omega), by show T.2.2.2 ≤ T.2.2.2 + 40; omega, ⟨h40, hok⟩, pxPrint_ok ok _ _ _ _ hp o100 ook e, fk⟩
  by_cases c1 : pxP s p = 112
  · rw [if_pos c1]; exact pr _ (ne (by omega)) (fun y _ c hc => by cases hc)
  rw [if_neg c1]
  by_cases c2 : pxP s p = 110
  · rw [if_pos c2]
    refine pr _ (ne (by omega)) (fun y hy c hc => ?_)
    rcases List.mem_append.mp hc with z | z
    · exact pxDig_ch (by omega) c z
    · rw [List.mem_singleton.mp z]; exact pxCh_32
  rw [if_neg c2]
  by_cases c3 : pxP s p = 61
  · rw [if_pos c3]
    unfold pxSpEq
    by_cases d : S.2.1.length < 100
    · rw [if_pos d]
      intro _
      exact ⟨I, by show T.2.2.2 ≤ T.2.2.2 + 40; omega, ⟨h40, hok⟩, ⟨by dsimp only; rw [List.length_append, List.length_singleton]; omega, pxOk_app ook (pxOk_one (pxDig_or (by have := ne (by omega); omega)))⟩, fk⟩
    · rw [if_neg d]; intro z; exact absurd z (by show ¬ (4 : Int) = 0; omega)
  rw [if_neg c3]
  by_cases c4 : pxP s p = 104
  · rw [if_pos c4]
    have := ne (by omega)
    intro _
    exact ⟨I.setNow (by omega) l1 (by omega), by show T.2.2.2 ≤ T.2.2.2 + 40; omega, ⟨by show (pxSub (pxRs T.1) f l).length ≤ 40; omega, pxOk_sub ok⟩, ⟨o100, ook⟩, fk⟩
  rw [if_neg c4]
  by_cases c5 : pxP s p = 72
  · rw [if_pos c5]
    have := ne (by omega)
    unfold pxSpMore
    by_cases d : (S.1.length : Int) + (l - f + 1) ≤ 40
    · rw [if_pos d]
      intro _
      exact ⟨I.setNow (by omega) l1 (by omega), by show T.2.2.2 ≤ T.2.2.2 + 40; omega, ⟨by dsimp only; rw [List.length_append]; omega, pxOk_app hok (pxOk_sub ok)⟩, ⟨o100, ook⟩, fk⟩
    · rw [if_neg d]; intro z; exact absurd z (by show ¬ (4 : Int) = 0; omega)
  rw [if_neg c5]
  by_cases c6 : pxP s p = 107
  · rw [if_pos c6]
    have := ne (by omega)
    obtain ⟨d1, d2⟩ := dk c6
    intro _
    obtain ⟨i1, i2, i3, i4, i5, i6, i7, i8, i9⟩ := I
    refine ⟨⟨i1, i2, i3, i4, i5, i6, i7, i8, fun k k0 k1 => ?_⟩, by show T.2.2.2 ≤ T.2.2.2 + 40; omega, ⟨h40, hok⟩, ⟨o100, ook⟩, fk⟩
    show (if k = pxP s (p + 1) - 97 then pxId T.1 l else T.2.1 k) = -1 ∨ (if k = pxP s (p + 1) - 97 then pxId T.1 l else T.2.1 k) ∈ pxIds T.1
    by_cases e : k = pxP s (p + 1) - 97
    · rw [if_pos e]
      right
      exact List.mem_map.mpr ⟨pxAt T.1 l, pxG_mem (by omega) l1, rfl⟩
    · rw [if_neg e]; exact i9 k k0 k1
  rw [if_neg c6]
  intro _
  refine ⟨I, by show T.2.2.2 ≤ T.2.2.2 + 40; omega, ⟨h40, hok⟩, ⟨o100, ook⟩, fun k k0 k1 => ?_⟩
  show (if k = pxP s (p + 1) - 48 then pxSub (pxRs T.1) f l else S.2.2 k).length ≤ 40 ∧ pxOk (if k = pxP s (p + 1) - 48 then pxSub (pxRs T.1) f l else S.2.2 k)
  by_cases e : k = pxP s (p + 1) - 48
  · rw [if_pos e]; exact ⟨by omega, pxOk_sub ok⟩
  · rw [if_neg e]; exact fk k k0 k1
