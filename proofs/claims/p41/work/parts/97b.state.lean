/-! the state behind the constructors -/
theorem ini_C : jw_C0 = some (jw_Wn, jw_W) := by
  have h := ini_s
  unfold jw_Wn jw_W
  cases e : jw_C0 with
  | none => rw [e] at h; cases h
  | some q => rfl
def jw_ini (W : jw_H) : Prop := (∀ k, k < 587 → jw_t W k = jw_iT.getD k (0, 0)) ∧ (∀ q ∈ jw_iR, jw_r W q.1 q.2.1 = some q.2.2) ∧ ∀ q ∈ jw_iM, jw_i W q.1 q.2.1 = Int32.ofInt q.2.2
theorem ini_all : ∃ W, jw_C0 = some (0, W) ∧ jw_ini W ∧ jw_n W = 587 ∧ jw_c W = 587 ∧ jw_s W = 84866 := ⟨jw_W, by rw [ini_C, ini_n.2.2.2], ⟨ini_t, ini_r, ini_i⟩, ini_n.1, ini_n.2.1, ini_n.2.2.1⟩
abbrev iSR (ρ cap : Nat) : Prop := jw_iT.getD ρ (0, 0) = (7, 0) ∧ jw_iT.getD (ρ + 1) (0, 0) = (20, cap) ∧ jw_iT.getD (ρ + 2) (0, 0) = (21, cap * 30) ∧ (ρ, 0, ρ + 1) ∈ jw_iR ∧ (ρ, 1, ρ + 2) ∈ jw_iR ∧ cap ≤ 100 ∧ ρ + 2 < 587
abbrev iST (τ : Nat) : Prop := jw_iT.getD τ (0, 0) = (9, 0) ∧ (τ, 0, τ + 1) ∈ jw_iR ∧ (τ, 1, τ + 4) ∈ jw_iR ∧ (τ, 2, τ + 5) ∈ jw_iR ∧ jw_iT.getD (τ + 4) (0, 0) = (20, 40) ∧ jw_iT.getD (τ + 5) (0, 0) = (20, 5) ∧ τ + 5 < 587 ∧ iSR (τ + 1) 40
abbrev iSF (s k : Nat) : Prop := (s + 7, k, s + 8 + 3 * k) ∈ jw_iR ∧ iSR (s + 8 + 3 * k) 40
abbrev iSS (s : Nat) : Prop := jw_iT.getD s (0, 0) = (8, 0) ∧ (s, 0, s + 1) ∈ jw_iR ∧ (s, 1, s + 4) ∈ jw_iR ∧ (s, 2, s + 7) ∈ jw_iR ∧ (s, 3, s + 20) ∈ jw_iR ∧ jw_iT.getD (s + 7) (0, 0) = (37, 4) ∧ jw_iT.getD (s + 20) (0, 0) = (21, 30) ∧ s + 20 < 587
abbrev iOP (i : Nat) : Prop := (11, i, 12 + 4 * i) ∈ jw_iR ∧ jw_iT.getD (12 + 4 * i) (0, 0) = (5, 0) ∧ (12 + 4 * i, 0, 13 + 4 * i) ∈ jw_iR ∧ (12 + 4 * i, 1, 14 + 4 * i) ∈ jw_iR ∧ (12 + 4 * i, 2, 15 + 4 * i) ∈ jw_iR ∧ jw_iT.getD (13 + 4 * i) (0, 0) = (0, 0) ∧ jw_iT.getD (14 + 4 * i) (0, 0) = (0, 0) ∧ jw_iT.getD (15 + 4 * i) (0, 0) = (0, 0)
abbrev iRG (j : Nat) : Prop := (283, j, 285 + 6 * j) ∈ jw_iR ∧ iST (285 + 6 * j)
def iOb (i : Nat) : Bool := decide (iOP i)
def iRb (j : Nat) : Bool := decide (iRG j)
def iFb (s k : Nat) : Bool := decide (iSF s k)
def iMb (c : Nat) (v : Int) (j : Nat) : Bool := decide ((c, j, v) ∈ jw_iM)
def iQb (k : Nat) : Bool := decide ((2, k, 3 + k) ∈ jw_iR ∧ jw_iT.getD (3 + k) (0, 0) = (21, 60))
def iWb (k : Nat) : Bool := decide ((261 + 8 + 3 * k, 2, (0 : Int)) ∈ jw_iM)
theorem ini_i255 : iST 255 := by decide +kernel
theorem ini_i563 : iST 563 := by decide +kernel
theorem ini_i572 : iST 572 := by decide +kernel
theorem ini_i261 : iSS 261 := by decide +kernel
theorem ini_i538 : iSS 538 := by decide +kernel
theorem ini_i262 : iSR 262 40 := by decide +kernel
theorem ini_i265 : iSR 265 100 := by decide +kernel
theorem ini_i539 : iSR 539 40 := by decide +kernel
theorem ini_i542 : iSR 542 100 := by decide +kernel
theorem ini_f261 : ∀ k, k < 4 → iFb 261 k = true := by decide +kernel
theorem ini_f538 : ∀ k, k < 4 → iFb 538 k = true := by decide +kernel
theorem ini_i560 : iSR 560 60 := by decide +kernel
theorem ini_i578 : iSR 578 1 := by decide +kernel
theorem ini_i581 : iSR 581 41 := by decide +kernel
theorem ini_i584 : iSR 584 60 := by decide +kernel
theorem ini_ring : ∀ j, j < 41 → iRb j = true := by decide +kernel
theorem ini_ords : ∀ i, i < 60 → iOb i = true := by decide +kernel
theorem ini_b : ∀ q ∈ jw_iM, -1 ≤ q.2.2 ∧ q.2.2 ≤ 0 := by decide +kernel
section
variable {W : jw_H}
theorem jw_ini.m (J : jw_ini W) {k f : Nat} {v : Int} (h : (k, f, v) ∈ jw_iM) : pxM W k f = v := by
  have b := ini_b _ h
  have e : jw_i W k f = pxJ v := J.2.2 _ h
  unfold pxM
  rw [e]
  exact pxJ_toInt (by have : -1 ≤ v := b.1; omega) (by have : v ≤ 0 := b.2; omega)
theorem jw_ini.tt (J : jw_ini W) {k : Nat} {q : Nat × Nat} (h : k < 587) (e : jw_iT.getD k (0, 0) = q) : jw_t W k = q := (J.1 k h).trans e
theorem jw_ini.t1 (J : jw_ini W) {k : Nat} {q : Nat × Nat} (h : k < 587) (e : jw_iT.getD k (0, 0) = q) : (jw_t W k).1 = q.1 := by rw [J.tt h e]
theorem jw_ini.rr (J : jw_ini W) {k f t : Nat} (h : (k, f, t) ∈ jw_iR) : jw_r W k f = some t := J.2.1 _ h
theorem jw_ini.sr (J : jw_ini W) {ρ cap : Nat} (h : iSR ρ cap) : pxSR W ρ cap := by
  obtain ⟨a, b, c, d, e, f, g⟩ := h
  exact ⟨J.t1 (by omega) a, J.tt (by omega) b, J.tt (by omega) c, J.rr d, J.rr e, f⟩
theorem jw_ini.ir (J : jw_ini W) {ρ cap : Nat} (h : iSR ρ cap) (m : (ρ, 2, (0 : Int)) ∈ jw_iM) : pxIR W ρ cap [] := ⟨J.sr h, Nat.zero_le _, pxOk_nil, J.m m, fun x x1 x2 => by
  have x2 : x ≤ 0 := x2
  omega⟩
theorem jw_ini.st (J : jw_ini W) {τ : Nat} (h : iST τ) : pxSX W τ := by
  obtain ⟨a, b, c, d, e, f, g, i⟩ := h
  exact ⟨⟨J.t1 (by omega) a, J.rr b, J.rr c, J.rr d, J.tt (by omega) e, J.tt (by omega) f⟩, J.sr i⟩
theorem jw_ini.ss (J : jw_ini W) {s : Nat} (h : iSS s) (k : iSR (s + 1) 40) (l : iSR (s + 4) 100) (hf : ∀ k, k < 4 → iFb s k = true) : pxSSX W s := by
  obtain ⟨a, b, c, d, e, f, i, j⟩ := h
  have g : ∀ k, k < 4 → iSF s k := fun k hk => of_decide_eq_true (hf k hk)
  exact ⟨⟨J.t1 (by omega) a, J.rr b, J.rr c, J.rr d, J.rr e, J.tt (by omega) f, fun k k0 k4 => J.rr (g k.toNat (by omega)).1, J.tt (by omega) i⟩, J.sr k, J.sr l, fun k k0 k4 => J.sr (g k.toNat (by omega)).2⟩
theorem jw_ini.PSp (J : jw_ini W) : pxPS W := by
  refine ⟨J.t1 (q := (6, 0)) (by decide) (by decide +kernel), J.rr (by decide +kernel), J.rr (by decide +kernel), J.rr (by decide +kernel), J.tt (by decide) (by decide +kernel), J.tt (by decide) (by decide +kernel), J.tt (by decide) (by decide +kernel), fun i i6 => ?_⟩
  have o : iOP i := of_decide_eq_true (ini_ords i i6)
  obtain ⟨b1, b2, b3, b4, b5, b6, b7, b8⟩ := o
  exact ⟨J.rr b1, J.t1 (by omega) b2, J.rr b3, J.rr b4, J.rr b5, J.t1 (by omega) b6, J.t1 (by omega) b7, J.t1 (by omega) b8⟩
theorem jw_ini.MSp (J : jw_ini W) : pxMS W := ⟨J.t1 (q := (4, 0)) (by decide) (by decide +kernel), J.rr (by decide +kernel), J.rr (by decide +kernel), J.rr (by decide +kernel), J.rr (by decide +kernel), J.rr (by decide +kernel), J.tt (by decide) (by decide +kernel), J.tt (by decide) (by decide +kernel), J.tt (by decide) (by decide +kernel), J.tt (by decide) (by decide +kernel)⟩
theorem jw_ini.HSp (J : jw_ini W) : pxHS W := ⟨J.t1 (q := (2, 0)) (by decide) (by decide +kernel), J.rr (by decide +kernel), J.rr (by decide +kernel), J.rr (by decide +kernel), J.tt (by decide) (by decide +kernel)⟩
theorem jw_ini.WFp (J : jw_ini W) : pxWF W := ⟨J.t1 (q := (10, 0)) (by decide) (by decide +kernel), J.rr (by decide +kernel), J.rr (by decide +kernel), J.rr (by decide +kernel), J.rr (by decide +kernel), J.rr (by decide +kernel), J.rr (by decide +kernel), J.rr (by decide +kernel), J.rr (by decide +kernel), J.rr (by decide +kernel), J.rr (by decide +kernel), J.rr (by decide +kernel), J.tt (by decide) (by decide +kernel), J.tt (by decide) (by decide +kernel)⟩
theorem jw_ini.BFp (J : jw_ini W) : pxBF W := ⟨J.t1 (q := (1, 0)) (by decide) (by decide +kernel), J.rr (by decide +kernel), J.rr (by decide +kernel), J.rr (by decide +kernel), J.rr (by decide +kernel), J.rr (by decide +kernel), J.rr (by decide +kernel), J.rr (by decide +kernel), J.rr (by decide +kernel), J.rr (by decide +kernel), J.rr (by decide +kernel)⟩
theorem jw_ini.Hshp (J : jw_ini W) : pxHsh W := ⟨J.t1 (q := (3, 0)) (by decide) (by decide +kernel), J.rr (by decide +kernel), J.rr (by decide +kernel), J.tt (by decide) (by decide +kernel), J.tt (by decide) (by decide +kernel), fun j j4 => ⟨J.rr (show iRG j from of_decide_eq_true (ini_ring j j4)).1, J.st (show iRG j from of_decide_eq_true (ini_ring j j4)).2⟩⟩
theorem jw_ini.C7p (J : jw_ini W) : pwC W := by
  have a : ∀ q ∈ pwTb, (0, q.1, q.2) ∈ jw_iR := by decide +kernel
  have b0 : ∀ k, k < 4 → iQb k = true := by decide +kernel
  have b : ∀ k, k < 4 → (2, k, 3 + k) ∈ jw_iR ∧ jw_iT.getD (3 + k) (0, 0) = (21, 60) := fun k hk => of_decide_eq_true (b0 k hk)
  exact ⟨J.t1 (q := (11, 0)) (by decide) (by decide +kernel), fun q hq => J.rr (a q hq), J.tt (by decide) (by decide +kernel), J.tt (by decide) (by decide +kernel), fun k k0 k4 => ⟨J.rr (b k.toNat (by omega)).1, J.tt (by omega) (b k.toNat (by omega)).2⟩, J.tt (by decide) (by decide +kernel), J.tt (by decide) (by decide +kernel), J.tt (by decide) (by decide +kernel)⟩
def pz0 : pzA := ([], (fun _ => none), ([], (fun _ => -1), 0, 0), ([], [], fun _ => []), [], 0, 0)
theorem jw_ini.mk (J : jw_ini W) {c b : Nat} {v : Int} (h : ∀ j, j < b → iMb c v j = true) : ∀ k : Int, 0 ≤ k → k < b → pxM W c k.toNat = v := fun k k0 k1 => J.m (of_decide_eq_true (h k.toNat (by omega)))
theorem jw_ini.Ap (J : jw_ini W) : pwA W pz0 := by
  have f0 : ∀ k, k < 4 → iWb k = true := by decide +kernel
  have f1 : ∀ k, k < 4 → (261 + 8 + 3 * k, 2, (0 : Int)) ∈ jw_iM := fun k hk => of_decide_eq_true (f0 k hk)
  have g1 : ∀ k, k < 4 → iSF 261 k := fun k hk => of_decide_eq_true (ini_f261 k hk)
  refine ⟨J.C7p, ⟨J.m (by decide +kernel), fun j j0 j1 => ?_⟩, fun k k0 k4 => ⟨fun _ => J.mk (b := 4) (by decide +kernel) k k0 (by omega), fun s z => by
    have z : (none : Option (List Int)) = some s := z
    cases z⟩, ⟨(J.st ini_i255).1, J.ir ini_i255.2.2.2.2.2.2.2 (by decide +kernel), fun x x1 x2 => ?_, fun k k0 k5 => J.mk (b := 5) (v := -1) (by decide +kernel) k k0 (by omega), J.m (by decide +kernel), J.m (by decide +kernel)⟩, ⟨(J.ss ini_i261 ini_i262 ini_i265 ini_f261).1, J.ir ini_i262 (by decide +kernel), J.ir ini_i265 (by decide +kernel), fun k k0 k4 => J.ir (g1 k.toNat (by omega)).2 (f1 k.toNat (by omega))⟩, ⟨0, J.Hshp, by decide, by decide, J.m (by decide +kernel), J.m (by decide +kernel), by decide, fun d x hx => by
    have hx : ([] : List (Int × pxSn))[d]? = some x := hx
    rw [List.getElem?_nil] at hx
    cases hx⟩, J.m (by decide +kernel), J.m (by decide +kernel), J.PSp, ⟨false, J.WFp, J.MSp, J.HSp, ⟨[], J.ir ini_i560 (by decide +kernel)⟩, J.st ini_i563, J.m (by decide +kernel)⟩, J.ss ini_i538 ini_i539 ini_i542 ini_f538, J.BFp, J.st ini_i572, ⟨[], J.ir ini_i578 (by decide +kernel)⟩, ⟨[], J.ir ini_i581 (by decide +kernel)⟩, ⟨[], J.ir ini_i584 (by decide +kernel)⟩⟩
  · have j1 : j < 0 := j1
    omega
  · have x2 : x ≤ 0 := x2
    omega
theorem ini_IS : pxInvS ([], [], fun _ => []) := ⟨⟨Nat.zero_le _, pxOk_nil⟩, ⟨Nat.zero_le _, pxOk_nil⟩, fun k k0 k4 => ⟨Nat.zero_le _, pxOk_nil⟩⟩
theorem ini_O : pzOk ((0 : Nat) : Int) pz0 := ⟨pxTp_nil, fun k s _ _ e => (by
    have e : (none : Option (List Int)) = some s := e
    cases e), ⟨by decide, pxOk_nil, by decide, by decide, fun z => absurd z (by decide), by decide, fun a ha => (by
    have ha : a ∈ ([] : List Int) := ha
    cases ha), List.nodup_nil, fun k _ _ => Or.inl rfl⟩, ini_IS, fun d hd => (by
    have hd : d ∈ ([] : List (Int × pxSn)) := hd
    cases hd), by decide, by decide, by decide, by decide, trivial⟩
end
