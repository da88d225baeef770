/-! one line after another; what a find tells -/
theorem qz_desc {α : Type} {f g : Int → Option α} (h : ∀ x, f x = g x) : ∀ (n : Nat) (x : Int), pxDesc f n x = pxDesc g n x
  | 0, _ => rfl
  | n + 1, x => by
    show (f x).elim (pxDesc f n (x - 1)) some = (g x).elim (pxDesc g n (x - 1)) some
    rw [h x, qz_desc h n]
theorem qz_fit {s s' r : List Int} : ∀ (l : List (Int × Int)), (∀ e ∈ l, e.1 ≠ 4) → ∀ (o c : Int → Int) (x : Int), pxFit s r l o c x = pxFit s' r l o c x
  | [], _, _, _, _ => rfl
  | e :: l, h, o, c, x => by
    have h4 := h e List.mem_cons_self
    have ih := qz_fit (s := s) (s' := s') (r := r) l (fun z hz => h z (List.mem_cons_of_mem _ hz))
    have eb : pxHb s e (pxE r x) = pxHb s' e (pxE r x) := by
      unfold pxHb
      rw [decide_eq_false h4, Bool.false_and, Bool.false_and]
    have eU : ∀ z : List Int, pxFit z r (e :: l) o c x = if e.1 = 3 then pxDesc (fun y => pxFit z r l o c y) (r.length - x + 1).toNat r.length
      else if e.1 = 5 then pxFit z r l (pxU o e.2 x) c x
      else if e.1 = 6 then pxFit z r l o (pxU c e.2 x) x
      else if e.1 = 7 then (if pxBk r (c e.2 - o e.2).toNat (o e.2) x = true then pxFit z r l o c (x + (c e.2 - o e.2)) else none)
      else if e.1 = 8 then (if x = 0 then pxFit z r l o c x else none)
      else if e.1 = 9 then (if x = r.length then pxFit z r l o c x else none)
      else if e.1 = 10 then some (x, o, c)
      else if x < r.length ∧ pxHb z e (pxE r x) = true then pxFit z r l o c (x + 1) else none := fun _ => rfl
    rw [eU s, eU s', eb, qz_desc (fun y => ih o c y), ih (pxU o e.2 x) c x, ih o (pxU c e.2 x) x, ih o c (x + (c e.2 - o e.2)), ih o c x, ih o c (x + 1)]
theorem qz_seek {s s' r : List Int} {l : List (Int × Int)} (h : ∀ e ∈ l, e.1 ≠ 4) {fr : Int} {on : Bool} : ∀ (m : Nat) (x : Int), pxSeek s r l fr on m x = pxSeek s' r l fr on m x
  | 0, _ => rfl
  | m + 1, x => by
    show (pxFit s r l px0 px0 x).elim (pxSeek s r l fr on m (x + 1)) _ = (pxFit s' r l px0 px0 x).elim (pxSeek s' r l fr on m (x + 1)) _
    rw [qz_fit (s' := s') l h px0 px0 x, qz_seek h m (x + 1)]
theorem qz_find {s s' r : List Int} {l : List (Int × Int)} (h : ∀ e ∈ l, e.1 ≠ 4) {fr : Int} {on : Bool} : pxFind s r l fr on = pxFind s' r l fr on := qz_seek h _ _
theorem qz_rp {s s' r : List Int} {l : List (Int × Int)} (h : ∀ e ∈ l, e.1 ≠ 4) {num : Int} {pw : Int → Int → (Int → Int) → (Int → Int) → List Int} : ∀ (m : Nat) (fi fr : Int) (on : Bool) (cp : Int), pxRp s r l num pw m fi fr on cp = pxRp s' r l num pw m fi fr on cp
  | 0, _, _, _, _ => rfl
  | m + 1, fi, fr, on, cp => by
    have eU : ∀ z : List Int, pxRp z r l num pw (m + 1) fi fr on cp = (pxFind z r l fr on).elim (pxSl r cp r.length, false) (fun v =>
      if num = 0 then (pxSl r cp v.1 ++ (pw v.1 v.2.1 v.2.2.1 v.2.2.2 ++ (pxRp z r l num pw m (fi + 1) v.2.1 true v.2.1).1), true)
      else if num = fi then (pxSl r cp v.1 ++ (pw v.1 v.2.1 v.2.2.1 v.2.2.2 ++ pxSl r v.2.1 r.length), true)
      else pxRp z r l num pw m (fi + 1) v.2.1 true cp) := fun _ => rfl
    rw [eU s, eU s', qz_find (s' := s') h]
    cases pxFind s' r l fr on with
    | none => rfl
    | some v =>
      rw [Option.elim_some, Option.elim_some, qz_rp (s' := s') h m (fi + 1) v.2.1 true v.2.1, qz_rp (s' := s') h m (fi + 1) v.2.1 true cp]
/-- b*c, with d behind it -/
def qzPat : List (Int × Int) := [(1, 98), (3, 0), (1, 99), (10, 0)]
def qzX (r : List Int) : List Int := (pxRp [] r qzPat 1 (fun a bb _ _ => pxSl r a bb ++ [100]) 31 1 0 false 0).1
def qzSub (s : List Int) (a : Int) : Bool := decide (pxP s a = 115) && decide (pxFull s (a + 2) = qzPat) && decide (pxRepN s (a + 1) = 1) && decide (pxPatK s (a + 2) = 0) && decide (pxP s (pxPtn s (a + 1)).2 = 38) && decide (pxP s ((pxPtn s (a + 1)).2 + 1) = 100) && decide (pxP s ((pxPtn s (a + 1)).2 + 1 + 1) = 47)
theorem qz_sub {s : List Int} {a : Int} (h : qzSub s a = true) (r : List Int) : qzC s a r = qzX r := by
  unfold qzSub at h
  rw [Bool.and_eq_true, Bool.and_eq_true, Bool.and_eq_true, Bool.and_eq_true, Bool.and_eq_true, Bool.and_eq_true] at h
  obtain ⟨⟨⟨⟨⟨⟨h1, h2⟩, h3⟩, h4⟩, h5⟩, h6⟩, h7⟩ := h
  have h1 := of_decide_eq_true h1
  have h2 := of_decide_eq_true h2
  have h3 := of_decide_eq_true h3
  have h4 := of_decide_eq_true h4
  have h5 := of_decide_eq_true h5
  have h6 := of_decide_eq_true h6
  have h7 := of_decide_eq_true h7
  obtain ⟨q, hq⟩ : ∃ q, (pxPtn s (a + 1)).2 = q := ⟨_, rfl⟩
  rw [hq] at h5 h6 h7
  have ep : ∀ (x y : Int) (o c : Int → Int), pxPw s r x y o c 0 61 q = pxSl r x y ++ [100] := fun x y o c => by
    have eU : ∀ (m : Nat) (k : Int), pxPw s r x y o c 0 (m + 1) k = if pxP s k = 92 ∧ (0 : Int) < 0 then pxSl r (o (pxP s (k + 1) - 48)) (c (pxP s (k + 1) - 48)) ++ pxPw s r x y o c 0 m (k + 2) else if pxP s k = 38 then pxSl r x y ++ pxPw s r x y o c 0 m (k + 1) else if pxIsCh (pxP s k) = true then pxP s k :: pxPw s r x y o c 0 m (k + 1) else [] := fun _ _ => rfl
    have c100 : pxIsCh 100 = true := by decide
    have c47 : ¬ pxIsCh 47 = true := by decide
    rw [eU, if_neg (by omega), if_pos h5, eU, if_neg (by omega), if_neg (by rw [h6]; decide), h6, if_pos c100, eU, if_neg (by omega), if_neg (by rw [h7]; decide), h7, if_neg c47]
  have ef : (fun (x y : Int) (o c : Int → Int) => pxPw s r x y o c (pxPatK s (a + 2)) 61 (pxPtn s (a + 1)).2) = (fun x y _ _ => pxSl r x y ++ [100]) := by
    funext x y o c
    rw [h4, hq]
    exact ep x y o c
  have n4 : ∀ e ∈ qzPat, e.1 ≠ 4 := by decide
  unfold qzC qzX pxChg
  rw [if_neg (by rw [h1]; decide), if_pos h1, h2, h3, ef, qz_rp (s' := []) n4]
theorem qz_subE : qzSub qtE 1 = true := by decide +kernel
/-- the tape of the line k -/
def qzDg (k : Nat) : List Int := if k < 10 then [48 + (k : Int)] else [48 + (k : Int) / 10, 48 + (k : Int) % 10]
def qzAt (k : Nat) : Int := if k < 10 then 1 else 2
def qzKb (k : Nat) : Bool := decide (pxOrds (qzDg k ++ qtA) 61 0 = (-1, [(0, [])])) && decide (pxWh (qzDg k ++ qtA) 0 = (true, qzAt k, 2, 0)) && decide (pxIsDg (pxP (qzDg k ++ qtA) 0) = true) && decide (pxNumV (qzDg k ++ qtA) 0 = (k : Int)) && decide (pxAddrS (qzDg k ++ qtA) 0 = 0) && qzSub (qzDg k ++ qtA) (qzAt k) && decide ((qzDg k ++ qtA).length ≤ 60) && (qzDg k ++ qtA).all (fun c => decide (32 ≤ c ∧ c ≤ 126))
theorem qz_kB : ∀ k, k < 41 → 1 ≤ k → qzKb k = true := by decide +kernel
theorem qz_k {k : Nat} (k1 : 1 ≤ k) (k40 : k ≤ 40) : pxOrds (qzDg k ++ qtA) 61 0 = (-1, [(0, [])]) ∧ pxWh (qzDg k ++ qtA) 0 = (true, qzAt k, 2, 0) ∧ pxIsDg (pxP (qzDg k ++ qtA) 0) = true ∧ pxNumV (qzDg k ++ qtA) 0 = (k : Int) ∧ pxAddrS (qzDg k ++ qtA) 0 = 0 ∧ qzSub (qzDg k ++ qtA) (qzAt k) = true ∧ pxTp (qzDg k ++ qtA) := by
  have h := qz_kB k (by omega) k1
  unfold qzKb at h
  rw [Bool.and_eq_true, Bool.and_eq_true, Bool.and_eq_true, Bool.and_eq_true, Bool.and_eq_true, Bool.and_eq_true, Bool.and_eq_true] at h
  obtain ⟨⟨⟨⟨⟨⟨⟨h1, h2⟩, h3⟩, h4⟩, h5⟩, h6⟩, h7⟩, h8⟩ := h
  exact ⟨of_decide_eq_true h1, of_decide_eq_true h2, of_decide_eq_true h3, of_decide_eq_true h4, of_decide_eq_true h5, h6, of_decide_eq_true h7, fun c hc => of_decide_eq_true (List.all_eq_true.mp h8 c hc)⟩
theorem qz_subP {s : List Int} {a : Int} (h : qzSub s a = true) : pxP s a = 115 := by
  unfold qzSub at h
  rw [Bool.and_eq_true, Bool.and_eq_true, Bool.and_eq_true, Bool.and_eq_true, Bool.and_eq_true, Bool.and_eq_true] at h
  exact of_decide_eq_true h.1.1.1.1.1.1
section
variable {T : pxTx} {S : pxSto} {call : Int} {D : List (Int × pxSn)}
theorem qz_pE : pxOrds qtE 61 0 = (-1, [(0, [])]) ∧ pxWh qtE 0 = (true, 1, 1, 0) ∧ pxAc qtE 0 = 115 ∧ pxP qtE 1 = 115 := by decide +kernel
theorem qz_sE (n0 : 0 < (T.1.length : Int)) : qzS qtE 0 [] T S = (pxDoC qtE 1 1 (T.1.length : Int) T S false).1 := by
  obtain ⟨-, h, c, e⟩ := qz_pE
  rw [qz_s (qz_rP (by rw [h]) n0) rfl (by rw [c]; decide), h]
  exact congrArg (·.1) (qz_doC (Or.inr (Or.inl e)))
/-- the order for all lines -/
theorem qz_runE (n0 : 0 < (T.1.length : Int)) : (pxRunL qtE (pxOrds qtE 61 0).2 call 61 0 0 0 T S false D).2.2.2.1 = S ∧ ((pxRunL qtE (pxOrds qtE 61 0).2 call 61 0 0 0 T S false D).1 = 0 ∨ ((pxRunL qtE (pxOrds qtE 61 0).2 call 61 0 0 0 T S false D).1 = 1 ∧ (∀ r ∈ pxRs T.1, (qzX r).length ≤ 30) ∧ pxRs (pxRunL qtE (pxOrds qtE 61 0).2 call 61 0 0 0 T S false D).2.2.1.1 = (pxRs T.1).map qzX)) := by
  obtain ⟨e, h, c, -⟩ := qz_pE
  rw [e]
  show (pxRunL qtE [(0, [])] call 61 0 0 0 T S false D).2.2.2.1 = S ∧ ((pxRunL qtE [(0, [])] call 61 0 0 0 T S false D).1 = 0 ∨ ((pxRunL qtE [(0, [])] call 61 0 0 0 T S false D).1 = 1 ∧ (∀ r ∈ pxRs T.1, (qzX r).length ≤ 30) ∧ pxRs (pxRunL qtE [(0, [])] call 61 0 0 0 T S false D).2.2.1.1 = (pxRs T.1).map qzX))
  obtain ⟨o1, o2, o3⟩ := qz_one (s := qtE) (p := 0) (ps := []) (call := call) (T := T) (S := S) (D := D) (by rw [c]; decide)
  have es := qz_sE (S := S) n0
  have k := qz_chgA (s := qtE) (a := 1) (rs := pxRs T.1) (rep := false) (l := (T.1.length : Int)) (by rw [pxRs_len])
  have eX : ∀ r, qzC qtE 1 r = qzX r := qz_sub qz_subE
  have eM : (pxRs T.1).map (qzC qtE 1) = (pxRs T.1).map qzX := List.map_congr_left fun r _ => eX r
  by_cases g : (qzS qtE 0 [] T S).1 = 0
  · obtain ⟨q1, q2⟩ := o2 g
    have z : (if (pxChgs qtE 1 ((T.1.length : Int) + 1 - 1).toNat 1 (pxRs T.1) false).1 = true then (0 : Int) else 4) = 0 := by
      rw [es] at g
      exact g
    have ok : (pxChgs qtE 1 ((T.1.length : Int) + 1 - 1).toNat 1 (pxRs T.1) false).1 = true := by
      by_cases c : (pxChgs qtE 1 ((T.1.length : Int) + 1 - 1).toNat 1 (pxRs T.1) false).1 = true
      · exact c
      · rw [if_neg c] at z
        cases z
    rw [q2, q1, o1, if_pos g, es]
    refine ⟨rfl, Or.inr ⟨rfl, fun r hr => by rw [← eX]; exact k.1.mp ok r hr, ?_⟩⟩
    show pxRs (pxReR T.1 (pxChgs qtE 1 ((T.1.length : Int) + 1 - 1).toNat 1 (pxRs T.1) false).2.1) = _
    rw [k.2 ok, (qz_zip T.1 _ (by rw [List.length_map, pxRs_len])).1, eM]
  · obtain ⟨q1, q2⟩ := o3 g
    rw [q2, o1, if_neg g]
    exact ⟨rfl, Or.inl rfl⟩
/-- the order for the line k -/
theorem qz_runK {k : Nat} (k1 : 1 ≤ k) (kn : k ≤ T.1.length) (n40 : T.1.length ≤ 40) (ok : (qzX (pxRw (pxRs T.1) k)).length ≤ 30) : (pxRunL (qzDg k ++ qtA) (pxOrds (qzDg k ++ qtA) 61 0).2 call 61 0 0 0 T S false D).1 = 1 ∧ (pxRunL (qzDg k ++ qtA) (pxOrds (qzDg k ++ qtA) 61 0).2 call 61 0 0 0 T S false D).2.2.2.1 = S ∧ pxRs (pxRunL (qzDg k ++ qtA) (pxOrds (qzDg k ++ qtA) 61 0).2 call 61 0 0 0 T S false D).2.2.1.1 = pxSet (pxRs T.1) k (qzX (pxRw (pxRs T.1) k)) ∧ (pxRunL (qzDg k ++ qtA) (pxOrds (qzDg k ++ qtA) 61 0).2 call 61 0 0 0 T S false D).2.2.1.1.length = T.1.length := by
  obtain ⟨e, h, d1, d2, d3, sb, -⟩ := qz_k k1 (by omega)
  have p := qz_subP sb
  have c : pxAc (qzDg k ++ qtA) 0 = 115 := by
    unfold pxAc
    rw [h]
    exact p
  rw [e]
  show (pxRunL (qzDg k ++ qtA) [(0, [])] call 61 0 0 0 T S false D).1 = 1 ∧ (pxRunL (qzDg k ++ qtA) [(0, [])] call 61 0 0 0 T S false D).2.2.2.1 = S ∧ pxRs (pxRunL (qzDg k ++ qtA) [(0, [])] call 61 0 0 0 T S false D).2.2.1.1 = pxSet (pxRs T.1) k (qzX (pxRw (pxRs T.1) k)) ∧ (pxRunL (qzDg k ++ qtA) [(0, [])] call 61 0 0 0 T S false D).2.2.1.1.length = T.1.length
  obtain ⟨o1, o2, o3⟩ := qz_one (s := qzDg k ++ qtA) (p := 0) (ps := []) (call := call) (T := T) (S := S) (D := D) (by rw [c]; decide)
  have l1 : pxLoc (qzDg k ++ qtA) 0 T = (k : Int) := qz_lD d1 d2 d3 (by omega) (by omega)
  have r : pxRng (qzDg k ++ qtA) 0 T = (0, (k : Int), (k : Int)) := by
    rw [qz_r2 (by rw [h]), l1]
    exact qz_rE (by omega) (by omega)
  have es : qzS (qzDg k ++ qtA) 0 [] T S = (pxDoC (qzDg k ++ qtA) (qzAt k) (k : Int) (k : Int) T S false).1 := by
    rw [qz_s r rfl (by rw [c]; decide), h]
    exact congrArg (·.1) (qz_doC (Or.inr (Or.inl p)))
  have eX := qz_sub sb (pxRw (pxRs T.1) k)
  have ec := qz_chg1 (s := qzDg k ++ qtA) (a := qzAt k) (x := (k : Int)) (rs := pxRs T.1) (rep := false)
  rw [eX, if_neg (by omega)] at ec
  have ed : pxDoC (qzDg k ++ qtA) (qzAt k) (k : Int) (k : Int) T S false = ((0, (pxReR T.1 (pxSet (pxRs T.1) k (qzX (pxRw (pxRs T.1) k))), T.2.1, (k : Int), T.2.2.2), S), (false || (pxChg (qzDg k ++ qtA) (qzAt k) (pxRw (pxRs T.1) k)).2)) := by
    unfold pxDoC
    rw [ec]
    rfl
  rw [ed] at es
  have g : (qzS (qzDg k ++ qtA) 0 [] T S).1 = 0 := by rw [es]
  obtain ⟨q1, q2⟩ := o2 g
  rw [q2, q1, o1, if_pos g, es]
  have el : (pxSet (pxRs T.1) k (qzX (pxRw (pxRs T.1) k))).length = T.1.length := by rw [pxSet_len, pxRs_len]
  exact ⟨rfl, rfl, (qz_zip _ _ el).1, qz_zlen el⟩
end
/-- a*b has two signs at least -/
def qzPf : List (Int × Int) := [(1, 97), (3, 0), (1, 98), (10, 0)]
theorem qz_pF : pxTpF qtF = -1 ∧ pxFull qtF 0 = qzPf := by decide +kernel
theorem qz_descE {α : Type} {f : Int → Option α} : ∀ (n : Nat) (x : Int) (v : α), pxDesc f n x = some v → ∃ y, x - n < y ∧ y ≤ x ∧ f y = some v
  | 0, x, v, h => by cases h
  | n + 1, x, v, h => by
    have h : (f x).elim (pxDesc f n (x - 1)) some = some v := h
    cases e : f x with
    | none =>
      rw [e] at h
      obtain ⟨y, y0, y1, y2⟩ := qz_descE n (x - 1) v h
      exact ⟨y, by omega, by omega, y2⟩
    | some w =>
      rw [e] at h
      exact ⟨x, by omega, by omega, by rw [e]; exact h⟩
theorem qz_fitF {s r : List Int} {x : Int} {v : Int × (Int → Int) × (Int → Int)} (h : pxFit s r qzPf px0 px0 x = some v) : x + 2 ≤ v.1 := by
  have eU : pxFit s r qzPf px0 px0 x = if x < r.length ∧ pxHb s (1, 97) (pxE r x) = true then pxDesc (fun y => if y < r.length ∧ pxHb s (1, 98) (pxE r y) = true then some (y + 1, px0, px0) else none) (r.length - (x + 1) + 1).toNat r.length else none := rfl
  rw [eU] at h
  by_cases c : x < r.length ∧ pxHb s (1, 97) (pxE r x) = true
  · rw [if_pos c] at h
    obtain ⟨y, y0, y1, y2⟩ := qz_descE _ _ _ h
    have y2 : (if y < r.length ∧ pxHb s (1, 98) (pxE r y) = true then some (y + 1, px0, px0) else none) = some v := y2
    by_cases d : y < r.length ∧ pxHb s (1, 98) (pxE r y) = true
    · rw [if_pos d] at y2
      have e := Option.some.inj y2
      rw [← e]
      show x + 2 ≤ y + 1
      omega
    · rw [if_neg d] at y2
      cases y2
  · rw [if_neg c] at h
    cases h
theorem qz_seekF {s r : List Int} {fr : Int} : ∀ (m : Nat) (x : Int) (v : Int × Int × (Int → Int) × (Int → Int)), pxSeek s r qzPf fr false m x = some v → v.1 + 2 ≤ v.2.1 ∧ x ≤ v.1
  | 0, x, v, h => by cases h
  | m + 1, x, v, h => by
    have h : (pxFit s r qzPf px0 px0 x).elim (pxSeek s r qzPf fr false m (x + 1)) (fun v => if false = true ∧ x = fr ∧ v.1 = fr then pxSeek s r qzPf fr false m (x + 1) else some (x, v)) = some v := h
    cases e : pxFit s r qzPf px0 px0 x with
    | none =>
      rw [e] at h
      have := qz_seekF m (x + 1) v h
      omega
    | some w =>
      rw [e, Option.elim_some, if_neg (fun z => by cases z.1)] at h
      have e2 := Option.some.inj h
      rw [← e2]
      exact ⟨qz_fitF e, Int.le_refl _⟩
theorem qz_findF {s r : List Int} {v : Int × Int × (Int → Int) × (Int → Int)} (h : pxFind s r qzPf 0 false = some v) : v.1 + 2 ≤ v.2.1 ∧ 0 ≤ v.1 := qz_seekF _ _ v h
