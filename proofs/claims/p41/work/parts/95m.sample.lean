/-! the class: sample -/
/-- a heap with the same contents, other counts and other kinds of cells -/
def jw_lf (h : jw_H) (nn cc ss : Nat) (t : Nat → Nat × Nat) : jw_H := (nn, cc, ss, t, jw_i h, jw_l h, jw_r h)
section
variable {h : jw_H} {α : pzA} {n : Int} {nn cc ss : Nat} {t : Nat → Nat × Nat}
theorem pxSR.lf (e : ∀ k, k < 587 → t k = jw_t h k) {ρ cap : Nat} (S : pxSR h ρ cap) (b : ρ + 2 < 587) : pxSR (jw_lf h nn cc ss t) ρ cap := by
  obtain ⟨a1, a2, a3, a4⟩ := S
  exact ⟨by show (t ρ).1 = 7; rw [e _ (by omega)]; exact a1, by show t (ρ + 1) = _; rw [e _ (by omega)]; exact a2, by show t (ρ + 2) = _; rw [e _ (by omega)]; exact a3, a4⟩
theorem pxIR.lf (e : ∀ k, k < 587 → t k = jw_t h k) {ρ cap : Nat} {rs : List (List Int)} (R : pxIR h ρ cap rs) (b : ρ + 2 < 587) : pxIR (jw_lf h nn cc ss t) ρ cap rs := ⟨R.1.lf e b, R.2⟩
theorem pxST.lf (e : ∀ k, k < 587 → t k = jw_t h k) {τ : Nat} (S : pxST h τ) (b : τ + 5 < 587) : pxST (jw_lf h nn cc ss t) τ := by
  obtain ⟨a1, a2, a3, a4, a5, a6⟩ := S
  exact ⟨by show (t τ).1 = 9; rw [e _ (by omega)]; exact a1, a2, a3, a4, by show t (τ + 4) = _; rw [e _ (by omega)]; exact a5, by show t (τ + 5) = _; rw [e _ (by omega)]; exact a6⟩
theorem pxIT.lf (e : ∀ k, k < 587 → t k = jw_t h k) {τ : Nat} {ls : pxLs} {mk : Int → Int} {now nx : Int} (I : pxIT h τ ls mk now nx) (b : τ + 5 < 587) : pxIT (jw_lf h nn cc ss t) τ ls mk now nx := ⟨I.1.lf e b, I.2.1.lf e (by omega), I.2.2⟩
theorem pxSX.lf (e : ∀ k, k < 587 → t k = jw_t h k) {τ : Nat} (I : pxSX h τ) (b : τ + 5 < 587) : pxSX (jw_lf h nn cc ss t) τ := ⟨I.1.lf e b, I.2.lf e (by omega)⟩
theorem pxSS.lf (e : ∀ k, k < 587 → t k = jw_t h k) {s : Nat} (S : pxSS h s) (b : s + 20 < 587) : pxSS (jw_lf h nn cc ss t) s := by
  obtain ⟨a1, a2, a3, a4, a5, a6, a7, a8⟩ := S
  exact ⟨by show (t s).1 = 8; rw [e _ (by omega)]; exact a1, a2, a3, a4, a5, by show t (s + 7) = _; rw [e _ (by omega)]; exact a6, a7, by show t (s + 20) = _; rw [e _ (by omega)]; exact a8⟩
theorem pxIS.lf (e : ∀ k, k < 587 → t k = jw_t h k) {s : Nat} {hl ou : List (List Int)} {fl : Int → List (List Int)} (I : pxIS h s hl ou fl) (b : s + 20 < 587) : pxIS (jw_lf h nn cc ss t) s hl ou fl := ⟨I.1.lf e b, I.2.1.lf e (by omega), I.2.2.1.lf e (by omega), fun k k0 k4 => (I.2.2.2 k k0 k4).lf e (by omega)⟩
theorem pxSSX.lf (e : ∀ k, k < 587 → t k = jw_t h k) {s : Nat} (I : pxSSX h s) (b : s + 20 < 587) : pxSSX (jw_lf h nn cc ss t) s := ⟨I.1.lf e b, I.2.1.lf e (by omega), I.2.2.1.lf e (by omega), fun k k0 k4 => (I.2.2.2 k k0 k4).lf e (by omega)⟩
theorem pxPS.lf (e : ∀ k, k < 587 → t k = jw_t h k) (S : pxPS h) : pxPS (jw_lf h nn cc ss t) := by
  obtain ⟨a1, a2, a3, a4, a5, a6, a7, a8⟩ := S
  refine ⟨by show (t 10).1 = 6; rw [e _ (by omega)]; exact a1, a2, a3, a4, by show t 11 = _; rw [e _ (by omega)]; exact a5, by show t 252 = _; rw [e _ (by omega)]; exact a6, by show t 253 = _; rw [e _ (by omega)]; exact a7, fun i i6 => ?_⟩
  obtain ⟨b1, b2, b3, b4, b5, b6, b7, b8⟩ := a8 i i6
  exact ⟨b1, by show (t (12 + 4 * i)).1 = 5; rw [e _ (by omega)]; exact b2, b3, b4, b5, by show (t (13 + 4 * i)).1 = 0; rw [e _ (by omega)]; exact b6, by show (t (14 + 4 * i)).1 = 0; rw [e _ (by omega)]; exact b7, by show (t (15 + 4 * i)).1 = 0; rw [e _ (by omega)]; exact b8⟩
theorem pxMS.lf (e : ∀ k, k < 587 → t k = jw_t h k) (S : pxMS h) : pxMS (jw_lf h nn cc ss t) := by
  obtain ⟨a1, a2, a3, a4, a5, a6, a7, a8, a9, a10⟩ := S
  exact ⟨by show (t 531).1 = 4; rw [e _ (by omega)]; exact a1, a2, a3, a4, a5, a6, by show t 532 = _; rw [e _ (by omega)]; exact a7, by show t 533 = _; rw [e _ (by omega)]; exact a8, by show t 534 = _; rw [e _ (by omega)]; exact a9, by show t 535 = _; rw [e _ (by omega)]; exact a10⟩
theorem pxHS.lf (e : ∀ k, k < 587 → t k = jw_t h k) (S : pxHS h) : pxHS (jw_lf h nn cc ss t) := by
  obtain ⟨a1, a2, a3, a4, a5⟩ := S
  exact ⟨by show (t 536).1 = 2; rw [e _ (by omega)]; exact a1, a2, a3, a4, by show t 537 = _; rw [e _ (by omega)]; exact a5⟩
theorem pxWF.lf (e : ∀ k, k < 587 → t k = jw_t h k) (S : pxWF h) : pxWF (jw_lf h nn cc ss t) := by
  obtain ⟨a1, a2, a3, a4, a5, a6, a7, a8, a9, a10, a11, a12, a13, a14⟩ := S
  exact ⟨by show (t 559).1 = 10; rw [e _ (by omega)]; exact a1, a2, a3, a4, a5, a6, a7, a8, a9, a10, a11, a12, by show t 569 = _; rw [e _ (by omega)]; exact a13, by show t 570 = _; rw [e _ (by omega)]; exact a14⟩
theorem pxBF.lf (e : ∀ k, k < 587 → t k = jw_t h k) (S : pxBF h) : pxBF (jw_lf h nn cc ss t) := ⟨by show (t 571).1 = 1; rw [e _ (by omega)]; exact S.1, S.2⟩
theorem pxHsh.lf (e : ∀ k, k < 587 → t k = jw_t h k) (S : pxHsh h) : pxHsh (jw_lf h nn cc ss t) := by
  obtain ⟨a1, a2, a3, a4, a5, a6⟩ := S
  exact ⟨by show (t 282).1 = 3; rw [e _ (by omega)]; exact a1, a2, a3, by show t 283 = _; rw [e _ (by omega)]; exact a4, by show t 284 = _; rw [e _ (by omega)]; exact a5, fun j j4 => ⟨(a6 j j4).1, (a6 j j4).2.lf e (by omega)⟩⟩
theorem pxHN.lf (e : ∀ k, k < 587 → t k = jw_t h k) {D : List (Int × pxSn)} {T : pxTx} (H : pxHN h D T) : pxHN (jw_lf h nn cc ss t) D T := by
  obtain ⟨B, ⟨S, b0, b1, m2, m3, d40, sl⟩, ⟨nx, I⟩, m4⟩ := H
  refine ⟨B, ⟨S.lf e, b0, b1, m2, m3, d40, fun d x hx => ?_⟩, ⟨nx, I.lf e (by have := pxSlt_b (B := B) (d := (D.length : Int)); omega)⟩, m4⟩
  obtain ⟨c1, nx', c2⟩ := sl d x hx
  exact ⟨c1, nx', c2.lf e (by have := pxSlt_b (B := B) (d := (d : Int)); omega)⟩
theorem pxAux.lf (e : ∀ k, k < 587 → t k = jw_t h k) {rep : Bool} (A : pxAux h rep) : pxAux (jw_lf h nn cc ss t) rep := by
  obtain ⟨a1, a2, a3, ⟨rs, a4⟩, a5, a6⟩ := A
  exact ⟨a1.lf e, a2.lf e, a3.lf e, ⟨rs, a4.lf e (by omega)⟩, a5.lf e (by omega), a6⟩
theorem pxBX.lf (e : ∀ k, k < 587 → t k = jw_t h k) (A : pxBX h) : pxBX (jw_lf h nn cc ss t) := by
  obtain ⟨a1, a2, ⟨r1, a3⟩, ⟨r2, a4⟩, ⟨r3, a5⟩⟩ := A
  exact ⟨a1.lf e, a2.lf e (by omega), ⟨r1, a3.lf e (by omega)⟩, ⟨r2, a4.lf e (by omega)⟩, ⟨r3, a5.lf e (by omega)⟩⟩
theorem pwC.lf (e : ∀ k, k < 587 → t k = jw_t h k) (S : pwC h) : pwC (jw_lf h nn cc ss t) := by
  obtain ⟨a1, a2, a3, a4, a5, a6, a7, a8⟩ := S
  exact ⟨by show (t 0).1 = 11; rw [e _ (by omega)]; exact a1, a2, by show t 1 = _; rw [e _ (by omega)]; exact a3, by show t 2 = _; rw [e _ (by omega)]; exact a4, fun k k0 k4 => ⟨(a5 k k0 k4).1, by show t (3 + k.toNat) = _; rw [e _ (by omega)]; exact (a5 k k0 k4).2⟩, by show t 7 = _; rw [e _ (by omega)]; exact a6, by show t 8 = _; rw [e _ (by omega)]; exact a7, by show t 9 = _; rw [e _ (by omega)]; exact a8⟩
theorem pwX.lf (e : ∀ k, k < 587 → t k = jw_t h k) (A : pwX h) : pwX (jw_lf h nn cc ss t) := by
  obtain ⟨a1, ⟨rep, a2⟩, a3, a4⟩ := A
  exact ⟨a1.lf e, ⟨rep, a2.lf e⟩, a3.lf e (by omega), a4.lf e⟩
/-- a new array -/
abbrev jw_n9 (h : jw_H) : jw_H := jw_new h (21, 9) 9
def jw_m9 (h : jw_H) : jw_H := (jw_n h, jw_c h, jw_s h, jw_t h, jw_i (jw_n9 h), jw_l (jw_n9 h), jw_r (jw_n9 h))
theorem jw_m9F : pxF (fun k _ => k = jw_n h) h (jw_m9 h) := ⟨rfl, rfl, rfl, rfl, fun k f hp => ⟨by show (if k = jw_n h then fun _ => 0 else jw_i h k) f = jw_i h k f; rw [if_neg hp], by show (if k = jw_n h then fun _ => 0 else jw_l h k) f = jw_l h k f; rw [if_neg hp], by show (if k = jw_n h then fun _ => none else jw_r h k) f = jw_r h k f; rw [if_neg hp]⟩⟩
theorem jw_n9t (hn : 587 ≤ jw_n h) : ∀ k, k < 587 → jw_t (jw_n9 h) k = jw_t (jw_m9 h) k := fun k hk => by
  show (if k = jw_n h then (21, 9) else jw_t h k) = jw_t h k
  rw [if_neg (by omega)]
theorem jw_n9e : jw_n9 h = jw_lf (jw_m9 h) (jw_n h + 1) (jw_c h + 1) (jw_s h + 9) (jw_t (jw_n9 h)) := rfl
/-- all that the class is, with a text that is noted -/
def pwN (h : jw_H) (α : pzA) : Prop := pwC h ∧ pwTp h α.1 ∧ pwSc h α.2.1 ∧ pxIX h α.2.2.1 ∧ pxIY h α.2.2.2.1 ∧ pxHN h α.2.2.2.2.1 α.2.2.1 ∧ pxM h 0 13 = α.2.2.2.2.2.1 ∧ pxM h 0 14 = α.2.2.2.2.2.2 ∧ pwX h
theorem pwN.n9 (hn : 587 ≤ jw_n h) (A : pwN h α) : pwN (jw_n9 h) α := by
  obtain ⟨C, Tp, Sc, I, Y, D, e13, e14, X⟩ := A
  have F := jw_m9F (h := h)
  have e := jw_n9t hn
  have C1 : pwC (jw_m9 h) := C.fr F (fun f _ => by omega) (fun f => by omega)
  have Tp1 : pwTp (jw_m9 h) α.1 := Tp.fr F (by omega) (fun f => by omega)
  have Sc1 : pwSc (jw_m9 h) α.2.1 := Sc.fr F (fun k f _ _ => by omega)
  have I1 : pxIX (jw_m9 h) α.2.2.1 := pxIT.fr I F (fun k f _ _ => by omega)
  have Y1 : pxIY (jw_m9 h) α.2.2.2.1 := pxIS.fr Y F (fun k f _ _ => by omega)
  have D1 : pxHN (jw_m9 h) α.2.2.2.2.1 α.2.2.1 := D.fr F (fun k f z => by omega)
  have X1 : pwX (jw_m9 h) := X.fr F (fun k f _ _ => by omega)
  have g13 : pxM (jw_m9 h) 0 13 = α.2.2.2.2.2.1 := by rw [F.m (by omega)]; exact e13
  have g14 : pxM (jw_m9 h) 0 14 = α.2.2.2.2.2.2 := by rw [F.m (by omega)]; exact e14
  rw [jw_n9e]
  exact ⟨C1.lf e, Tp1, Sc1, pxIT.lf e I1 (by omega), pxIS.lf e Y1 (by omega), D1.lf e, g13, g14, X1.lf e⟩
theorem pwN.fr {P : Nat → Nat → Prop} {h' : jw_H} (A : pwN h α) (F : pxF P h h') (n : ∀ k f, P k f → 587 ≤ k) : pwN h' α := by
  obtain ⟨C, Tp, Sc, I, Y, D, e13, e14, X⟩ := A
  have n' : ∀ k f, k ≤ 586 → ¬ P k f := fun k f a z => by have := n k f z; omega
  exact ⟨C.fr F (fun f _ => n' _ _ (by omega)) (fun f => n' _ _ (by omega)), Tp.fr F (n' _ _ (by omega)) (fun f => n' _ _ (by omega)), Sc.fr F (fun k f _ _ => n' _ _ (by omega)), pxIT.fr I F (fun k f _ _ => n' _ _ (by omega)), pxIS.fr Y F (fun k f _ _ => n' _ _ (by omega)), D.fr F (fun k f z => n' _ _ (by omega)), by rw [F.m (n' _ _ (by omega))]; exact e13, by rw [F.m (n' _ _ (by omega))]; exact e14, X.fr F (fun k f _ _ => n' _ _ (by omega))⟩
theorem px_and {a : Int} (a0 : 0 ≤ a) (a1 : a ≤ 2147483647) : pxJ a &&& (65535 : Int32) = pxJ (a % 65536) := by
  obtain ⟨k, rfl⟩ := Int.eq_ofNat_of_zero_le a0
  apply Int32.toBitVec_inj.mp
  apply BitVec.eq_of_toNat_eq
  show (BitVec.ofInt 32 (k : Int) &&& 65535#32).toNat = (BitVec.ofInt 32 ((k : Int) % 65536)).toNat
  rw [BitVec.toNat_and, BitVec.toNat_ofInt, BitVec.toNat_ofInt]
  have e1 : ((k : Int) % ((2 ^ 32 : Nat) : Int)).toNat = k := by omega
  have e2 : (((k : Int) % 65536) % ((2 ^ 32 : Nat) : Int)).toNat = k % 65536 := by omega
  have e3 : (65535#32).toNat = 2 ^ 16 - 1 := by decide
  rw [e1, e2, e3, Nat.and_two_pow_sub_one_eq_mod]
theorem c_nextLot {τ : Nat} {z : Int} (z0 : 0 ≤ z) (z1 : z ≤ 65535) : f_X9_nextLot h τ (pxJ z) = some (pxJ (pzLot z), h) := by
  unfold f_X9_nextLot pzLot
  rw [show (25173 : Int32) = pxJ 25173 from rfl, pxJ_mul, show (13849 : Int32) = pxJ 13849 from rfl, pxJ_add, px_and (by omega) (by omega)]
theorem px_lotd {L d : Int} (l0 : 0 ≤ L) (l1 : L ≤ 65535) (d0 : 0 < d) (d1 : d ≤ 100) : ((pxJ L / (16 : Int32)) - (pxJ L / (16 : Int32)) / pxJ d * pxJ d) = pxJ (L / 16 % d) := by
  rw [show (16 : Int32) = pxJ 16 from rfl, pxJ_div (by omega) (by omega) (by omega) (by omega), pxJ_div (by omega) (by omega) (by omega) (by omega), pxJ_mul, pxJ_sub, show L / 16 - L / 16 / d * d = L / 16 % d by rw [Int.emod_def, Int.mul_comm]]
theorem pzSs_len : ∀ (m : Nat) (z : Int) (ls : pxLs) (nx : Int), (pzSs m z ls nx).1.length = ls.length + m
  | 0, _, _, _ => rfl
  | m + 1, z, ls, nx => by
    have e : pzSs (m + 1) z ls nx = pzSs m (pzSr (pzLot z / 16 % 9).toNat (pzLot z) []).1 (ls ++ [(nx, (pzSr (pzLot z / 16 % 9).toNat (pzLot z) []).2)]) (nx + 1) := rfl
    rw [e, pzSs_len m, List.length_append, List.length_singleton]
    omega
theorem c_smp_b38 {k11 : jw_H → Nat → Int32 → Option Nat → Int32 → Int32 → Option (Unit × jw_H)} {Q : Unit → jw_H → Prop} {x2 x5 : Int32} {len : Int} {N0 : Nat} (l1 : len ≤ 8) {h0 : jw_H} (ta : jw_t h0 N0 = (21, 9)) (t9 : (jw_t h0 255).1 = 9) :
    ∀ (m N : Nat) (h : jw_H) (y z : Int) (w : List Int), y + m = len → 0 ≤ y → m < N → pxF (fun k _ => k = N0) h0 h → (w.length : Int) = y → (∀ j : Int, 0 ≤ j → j < y → pxM h N0 j.toNat = pxE w j) → 0 ≤ z → z ≤ 65535 →
    (∀ h1, pxF (fun k _ => k = N0) h0 h1 → (∀ j : Int, 0 ≤ j → j < len → pxM h1 N0 j.toNat = pxE (pzSr m z w).2 j) → pxW (g_X9_addSample_b97 k11 h1 255 x2 (some N0) (pxJ (pzSr m z w).1) x5 (pxJ len)) Q) →
    pxW (f_X9_addSample_b38 k11 N h 255 x2 (some N0) (pxJ z) x5 (pxJ len) (pxJ y)) Q := by
  intro m
  induction m with
  | zero =>
    intro N h y z w hy y0 hN F wl e z0 z1 next
    obtain ⟨N, rfl, -⟩ := px_fu hN
    rw [u_X9_addSample_b38]
    unfold g_X9_addSample_b38
    rw [if_pos (show pxJ len ≤ pxJ y from (pxJ_le (by omega) (by omega) (by omega) (by omega)).mpr (by omega))]
    exact next h F (fun j j0 j1 => e j j0 (by omega))
  | succ m ih =>
    intro N h y z w hy y0 hN F wl e z0 z1 next
    obtain ⟨N, rfl, hN⟩ := px_fu hN
    have lb := pzLot_b (z := z)
    have tN : jw_t h N0 = (21, 9) := by rw [F.t]; exact ta
    have t5 : (jw_t h 255).1 = 9 := by rw [F.t]; exact t9
    have go : ∀ c : Int, c = (if pzLot z / 16 % 6 = 5 then 32 else 97 + pzLot z / 16 % 6) → 0 ≤ c → c ≤ 127 → pxW (g_X9_addSample_b89 (f_X9_addSample_b38 k11 N) h 255 x2 (some N0) (pxJ (pzLot z)) x5 (pxJ len) (pxJ y) (some N0) (pxJ y) (pxJ c)) Q := by
      intro c ec c0 c1
      unfold g_X9_addSample_b89
      rw [pxJ_b8 (by omega) (by omega), pxJ_byte (by omega) (by omega), px_si (by rw [tN]) y0 (by rw [tN]; show y < ((9 : Nat) : Int); omega) (by omega), px_bs, show pxJ y + (1 : Int32) = pxJ (y + 1) from pxJ_add y 1]
      refine ih N _ (y + 1) (pzLot z) (w ++ [c]) (by omega) (by omega) (by omega) (F.trans (pxF.setI rfl)) (by rw [List.length_append, List.length_singleton]; omega) (fun j j0 j1 => ?_) lb.1 lb.2 (fun h1 F1 e1 => ?_)
      · by_cases g : j = y
        · rw [g, pxM_eq (by omega) (by omega), pxE_app2 (by omega), show y - (w.length : Int) = 0 by omega]
          rfl
        · rw [pxM_ne (by omega), pxE_app1 j0 (by omega)]
          exact e j j0 (by omega)
      · rw [ec] at e1 ⊢
        exact next h1 F1 e1
    rw [u_X9_addSample_b38]
    unfold g_X9_addSample_b38
    rw [if_neg (show ¬ (pxJ len ≤ pxJ y) from fun q => by
      have := (pxJ_le (a := len) (b := y) (by omega) (by omega) (by omega) (by omega)).mp q
      omega), px_ln (by rw [tN]; decide), tN, px_bs, if_neg (show ¬ (pxJ ((9 : Nat) : Int) ≤ pxJ y) from fun q => by
      have := (pxJ_le (a := ((9 : Nat) : Int)) (b := y) (by omega) (by omega) (by omega) (by omega)).mp q
      omega), px_rc t5, px_bs, c_nextLot z0 z1, px_b2, show ((pxJ (pzLot z) / (16 : Int32)) - (pxJ (pzLot z) / (16 : Int32)) / (6 : Int32) * (6 : Int32)) = pxJ (pzLot z / 16 % 6) from px_lotd (d := 6) lb.1 lb.2 (by omega) (by omega)]
    by_cases d : pzLot z / 16 % 6 = 5
    · rw [if_pos (show pxJ (pzLot z / 16 % 6) = (5 : Int32) by rw [d]; rfl)]
      exact go 32 (by rw [if_pos d]) (by omega) (by omega)
    · rw [if_neg (show ¬ (pxJ (pzLot z / 16 % 6) = (5 : Int32)) from py32 (a := pzLot z / 16 % 6) (b := 5) d (by omega) (by omega) (by omega) (by omega)), show (97 : Int32) + pxJ (pzLot z / 16 % 6) = pxJ (97 + pzLot z / 16 % 6) from pxJ_add 97 _]
      exact go _ (by rw [if_neg d]) (by omega) (by omega)
theorem pxNew_1 {nx : Int} : pxNew nx 1 = [(nx, [])] := by
  show [(nx + ((0 : Nat) : Int), ([] : List Int))] = _
  rw [show nx + ((0 : Nat) : Int) = nx by omega]
theorem pxSet_end {ls : pxLs} {a b : Int × List Int} : pxSet (ls ++ [a]) ((ls.length : Int) + 1) b = ls ++ [b] := by
  unfold pxSet
  rw [show ((ls.length : Int) + 1 - 1).toNat = ls.length by omega, List.set_append_right _ _ (Nat.le_refl _), Nat.sub_self]
  rfl
def pwQs (N0 : Nat) : Nat → Nat → Prop := fun k _ => k = N0 ∨ (255 ≤ k ∧ k ≤ 260)
theorem c_smp_b11 {k : Int} {N0 : Nat} (hN0 : 587 ≤ N0) (k1 : k ≤ 1000) {h0 : jw_H} (ta : jw_t h0 N0 = (21, 9)) {mk : Int → Int} {now : Int} :
    ∀ (m N : Nat) (h : jw_H) (x z nx : Int) (ls : pxLs), x + m = k → 0 ≤ x → m < N → pxF (pwQs N0) h0 h → pxIT h 255 ls mk now nx → (ls.length : Int) + m ≤ 40 → 0 ≤ nx → nx + m ≤ 2000000000 → 0 ≤ z → z ≤ 65535 →
    pxW (f_X9_addSample_b11 N h 255 (pxJ k) (some N0) (pxJ z) (pxJ x)) fun _ h' => pxF (pwQs N0) h0 h' ∧ pxIT h' 255 (pzSs m z ls nx).1 mk ((ls.length : Int) + m) (pzSs m z ls nx).2 := by
  intro m
  induction m with
  | zero =>
    intro N h x z nx ls hx x0 hN F I l40 nx0 nx1 z0 z1
    obtain ⟨N, rfl, -⟩ := px_fu hN
    rw [u_X9_addSample_b11]
    unfold g_X9_addSample_b11
    rw [if_pos (show pxJ k ≤ pxJ x from (pxJ_le (by omega) (by omega) (by omega) (by omega)).mpr (by omega)), px_gR I.1.1, I.1.2.1, px_bs, px_gI I.2.1.1.1, px_bs, I.c2, px_pI I.1.1, px_bs]
    have I2 := I.now3 (v := (ls.length : Int)) (by omega) (by omega)
    refine pxW_some.mpr ⟨F.trans (pxF.setI (Or.inr (by omega))), ?_⟩
    rw [show (ls.length : Int) + ((0 : Nat) : Int) = (ls.length : Int) by omega]
    exact I2
  | succ m ih =>
    intro N h x z nx ls hx x0 hN F I l40 nx0 nx1 z0 z1
    obtain ⟨N, rfl, hN⟩ := px_fu hN
    have lb := pzLot_b (z := z)
    have sb := pzSr_b (pzLot z / 16 % 9).toNat (pzLot z) [] lb.1 lb.2 (fun c hc => by cases hc)
    have sl := sb.2.2
    rw [List.length_nil] at sl
    have tN : jw_t h N0 = (21, 9) := by rw [F.t]; exact ta
    have eS : pzSs (m + 1) z ls nx = pzSs m (pzSr (pzLot z / 16 % 9).toNat (pzLot z) []).1 (ls ++ [(nx, (pzSr (pzLot z / 16 % 9).toNat (pzLot z) []).2)]) (nx + 1) := rfl
    rw [eS, u_X9_addSample_b11]
    unfold g_X9_addSample_b11
    rw [if_neg (show ¬ (pxJ k ≤ pxJ x) from fun q => by
      have := (pxJ_le (a := k) (b := x) (by omega) (by omega) (by omega) (by omega)).mp q
      omega), px_rc I.1.1, px_bs, c_nextLot z0 z1, px_b2, show ((pxJ (pzLot z) / (16 : Int32)) - (pxJ (pzLot z) / (16 : Int32)) / (9 : Int32) * (9 : Int32)) = pxJ (pzLot z / 16 % 9) from px_lotd (d := 9) lb.1 lb.2 (by omega) (by omega), show (0 : Int32) = pxJ 0 from rfl]
    refine c_smp_b38 (len := pzLot z / 16 % 9) (by omega) tN I.1.1 (pzLot z / 16 % 9).toNat jw_FU h 0 (pzLot z) [] (by omega) (by omega) (by unfold jw_FU; omega) pxF.rfl rfl (fun j j0 j1 => by omega) lb.1 lb.2 (fun h1 F1 e1 => ?_)
    generalize hr : (pzSr (pzLot z / 16 % 9).toNat (pzLot z) []).2 = r at *
    generalize hz : (pzSr (pzLot z / 16 % 9).toNat (pzLot z) []).1 = z' at *
    have I1 : pxIT h1 255 ls mk now nx := I.fr F1 (fun k f _ _ => by omega)
    have or : pxOr r := ⟨by omega, sb.2.1⟩
    unfold g_X9_addSample_b97
    rw [px_gR I1.1.1, I1.1.2.1, px_bs, px_gI I1.2.1.1.1, px_bs, I1.c2, px_rc I1.1.1, px_bs, show pxJ (ls.length : Int) + (1 : Int32) = pxJ ((ls.length : Int) + 1) from pxJ_add _ 1, show (1 : Int32) = pxJ 1 from rfl]
    refine pxW_b2 (s_X9_open I1 (x := (ls.length : Int) + 1) (n := 1) (by omega) (by omega) (by omega) (by omega) (by omega) (by omega)) fun q h2 w => ?_
    obtain ⟨F2, eq, I2⟩ := w
    rw [if_pos (show (ls.length : Int) + 1 ≤ 40 by omega)] at eq
    rw [if_pos (show (ls.length : Int) + 1 ≤ 40 by omega), if_pos (show (ls.length : Int) + 1 ≤ 40 by omega), pxIns_end, pxNew_1] at I2
    have l2 : (ls ++ [(nx, ([] : List Int))]).length = ls.length + 1 := by rw [List.length_append, List.length_singleton]
    have c2 := I2.c2
    rw [l2] at c2
    have tN2 : jw_t h2 N0 = (21, 9) := by rw [F2.t, F1.t]; exact tN
    have By : pxBy h2 N0 0 r := ⟨9, tN2, by omega, by omega, by omega, or, fun y y0 y1 => by
      rw [show 0 + y = y by omega, F2.m (by unfold pxC; omega)]
      exact e1 y y0 (by omega)⟩
    rw [eq, if_neg (show ¬ (pxJ 1 = 0) by decide), px_gR I2.1.1, I2.1.2.1, px_bs, px_bs, px_gI I2.2.1.1.1, px_bs, c2, px_rc I2.2.1.1.1, px_bs, show pxJ (pzLot z / 16 % 9) = pxJ (r.length : Int) by rw [show pzLot z / 16 % 9 = (r.length : Int) by omega], show (0 : Int32) = pxJ 0 from rfl]
    refine pxW_b2 (s_X7_write I2.2.1 By (x := ((ls.length + 1 : Nat) : Int)) (by omega) (by omega)) fun _ h3 w => ?_
    obtain ⟨F3, R3⟩ := w
    rw [if_pos (show 1 ≤ ((ls.length + 1 : Nat) : Int) ∧ ((ls.length + 1 : Nat) : Int) ≤ ((pxRs (ls ++ [(nx, ([] : List Int))])).length : Int) by rw [pxRs_len, l2]; omega)] at R3
    have I3 := I2.row1 F3 (x := ((ls.length + 1 : Nat) : Int)) (by omega) (by rw [l2]; omega) R3
    have eid : pxId (ls ++ [(nx, ([] : List Int))]) ((ls.length + 1 : Nat) : Int) = nx := by
      unfold pxId pxAt
      rw [pxG_app1 (by omega)]
    rw [eid, show ((ls.length + 1 : Nat) : Int) = (ls.length : Int) + 1 by omega, pxSet_end] at I3
    unfold g_X9_addSample_b132
    rw [show pxJ x + (1 : Int32) = pxJ (x + 1) from pxJ_add x 1]
    have el : (ls ++ [(nx, r)]).length = ls.length + 1 := by rw [List.length_append, List.length_singleton]
    have q := ih N h3 (x + 1) z' (nx + 1) (ls ++ [(nx, r)]) (by omega) (by omega) (by omega) (((F.trans (F1.mono (fun k f q => Or.inl q))).trans (F2.mono (fun k f q => Or.inr (by unfold pxC at q; omega)))).trans (F3.mono (fun k f q => Or.inr (by unfold pxC at q; omega)))) I3 (by rw [el]; omega) (by omega) (by omega) sb.1.1 sb.1.2
    rw [el, show ((ls.length + 1 : Nat) : Int) + (m : Int) = (ls.length : Int) + ((m + 1 : Nat) : Int) by omega] at q
    exact q
theorem c_addSample {z k : Int} {T : pxTx} (hn : 587 ≤ jw_n h) (I : pxIX (jw_n9 h) T) (z0 : 0 ≤ z) (z1 : z ≤ 65535) (k0 : 0 ≤ k) (k1 : k ≤ 20) (l40 : (T.1.length : Int) + k ≤ 40) (nx0 : 0 ≤ T.2.2.2) (nx1 : T.2.2.2 ≤ 1000000000) :
    pxW (f_X9_addSample h 255 (pxJ z) (pxJ k)) fun _ h' => pxF (pwQs (jw_n h)) (jw_n9 h) h' ∧ pxIX h' ((pzSs k.toNat z T.1 T.2.2.2).1, T.2.1, (T.1.length : Int) + k, (pzSs k.toNat z T.1 T.2.2.2).2) := by
  have em : jw_mka h 21 (9 : Int32) = some (jw_n9 h) := by
    unfold jw_mka
    rw [show (9 : Int32).toNatClampNeg = 9 by decide, if_pos (show ¬ (9 : Int32) < 0 ∧ 9 ≤ 1000000 by decide)]
  have kn : (k.toNat : Int) = k := by omega
  unfold f_X9_addSample
  rw [em, px_bs, show (0 : Int32) = pxJ 0 from rfl]
  have q := c_smp_b11 (k := k) hn (by omega) (h0 := jw_n9 h) (jw_t_new (h := h)) k.toNat jw_FU (jw_n9 h) 0 z T.2.2.2 T.1 (by omega) (by omega) (by unfold jw_FU; omega) pxF.rfl I (by omega) nx0 (by omega) z0 z1
  rw [kn] at q
  exact q
theorem pwF.nw {P1 P2 : Nat → Nat → Prop} {h2 h5 : jw_H} (F1 : pxF P1 h h2) (F2 : pxF P2 (jw_n9 h2) h5) (n1 : ∀ k f, P1 k f → k ≤ 586) (n2 : ∀ k f, P2 k f → k ≤ 586 ∨ k = jw_n h2) (hn : 587 ≤ jw_n h2) : pwF h h5 := by
  have W1 := pwF.of F1 n1
  have z1 : jw_n h5 = jw_n h2 + 1 := F2.1
  have z2 : jw_c h5 = jw_c h2 + 1 := F2.2.1
  have z3 : jw_s h5 = jw_s h2 + 9 := F2.2.2.1
  have y1 := F1.1
  have y2 := F1.2.1
  have y3 := F1.2.2.1
  refine ⟨by omega, by omega, by omega, fun k hk => ?_, fun k f a b => ?_⟩
  · rw [F2.t]
    show (if k = jw_n h2 then (21, 9) else jw_t h2 k) = _
    rw [if_neg (by omega), F1.t]
  · obtain ⟨a1, a2, a3⟩ := F2.2.2.2.2 k f (fun q => by have := n2 k f q; omega)
    obtain ⟨b1, b2, b3⟩ := W1.2.2.2.2 k f a b
    rw [a1, a2, a3]
    refine ⟨?_, ?_, ?_⟩
    · show (if k = jw_n h2 then fun _ => 0 else jw_i h2 k) f = _
      rw [if_neg (by omega)]; exact b1
    · show (if k = jw_n h2 then fun _ => 0 else jw_l h2 k) f = _
      rw [if_neg (by omega)]; exact b2
    · show (if k = jw_n h2 then fun _ => none else jw_r h2 k) f = _
      rw [if_neg (by omega)]; exact b3
set_option maxHeartbeats 1000000 in
theorem c_sample {z k : Int} (A : pwA h α) (hn : 587 ≤ jw_n h) (IV : pxInv α.2.2.1) (c0 : 0 ≤ α.2.2.2.2.2.1) (c1 : α.2.2.2.2.2.1 ≤ 1000000000) (nb : α.2.2.1.2.2.2 ≤ 1000000000) (z0 : -2147483648 ≤ z) (z1 : z ≤ 2147483647) (k0 : -2147483648 ≤ k) (k1 : k ≤ 2147483647) : pxW (f_X11_sample h 0 (pxJ z) (pxJ k)) fun v h' => pwY "java/lang/IllegalArgumentException" "java/lang/IllegalStateException" h (pz_sample z k α) v h' := by
  have l40 := A.2.2.2.1.len
  have no : ¬ (0 ≤ z ∧ z ≤ 65535 ∧ 1 ≤ k ∧ k ≤ 20) → pxW (g_X11_sample_b21 h) fun v h' => pwY "java/lang/IllegalArgumentException" "java/lang/IllegalStateException" h (pz_sample z k α) v h' := by
    intro q
    unfold g_X11_sample_b21 pz_sample
    rw [if_pos q]
    exact pxW_some.mpr (pwY_1 A)
  unfold f_X11_sample
  by_cases a1 : z < 0
  · rw [if_pos (show pxJ z < 0 from (pxJ_lt (a := z) (b := 0) z0 z1 (by omega) (by omega)).mpr a1)]
    exact no (by omega)
  rw [if_neg (show ¬ (pxJ z < 0) from fun q => a1 ((pxJ_lt (a := z) (b := 0) z0 z1 (by omega) (by omega)).mp q))]
  by_cases a2 : 65535 < z
  · rw [if_pos (show (65535 : Int32) < pxJ z from (pxJ_lt (a := 65535) (b := z) (by omega) (by omega) z0 z1).mpr a2)]
    exact no (by omega)
  rw [if_neg (show ¬ ((65535 : Int32) < pxJ z) from fun q => a2 ((pxJ_lt (a := 65535) (b := z) (by omega) (by omega) z0 z1).mp q))]
  by_cases a3 : k < 1
  · rw [if_pos (show pxJ k < (1 : Int32) from (pxJ_lt (a := k) (b := 1) k0 k1 (by omega) (by omega)).mpr a3)]
    exact no (by omega)
  rw [if_neg (show ¬ (pxJ k < (1 : Int32)) from fun q => a3 ((pxJ_lt (a := k) (b := 1) k0 k1 (by omega) (by omega)).mp q))]
  by_cases a4 : 20 < k
  · rw [if_neg (show ¬ (pxJ k ≤ (20 : Int32)) from fun q => by
      have := (pxJ_le (a := k) (b := 20) k0 k1 (by omega) (by omega)).mp q
      omega)]
    exact no (by omega)
  rw [if_pos (show pxJ k ≤ (20 : Int32) from (pxJ_le (a := k) (b := 20) k0 k1 (by omega) (by omega)).mpr (by omega))]
  obtain ⟨C, Tp, Sc, I, Y, D, e13, e14, X⟩ := id A
  unfold pz_sample
  rw [if_neg (show ¬ ¬ (0 ≤ z ∧ z ≤ 65535 ∧ 1 ≤ k ∧ k ≤ 20) from fun q => q ⟨by omega, by omega, by omega, by omega⟩), C.r (6, 255) (by decide), px_bs, px_gR I.1.1, I.1.2.1, px_bs, px_gI I.2.1.1.1, px_bs, I.c2, pxJ_add]
  by_cases b : (α.2.2.1.1.length : Int) + k ≤ 40
  · rw [if_pos (show pxJ ((α.2.2.1.1.length : Int) + k) ≤ (40 : Int32) from (pxJ_le (a := (α.2.2.1.1.length : Int) + k) (b := 40) (by omega) (by omega) (by omega) (by omega)).mpr b), if_neg (show ¬ (40 < (α.2.2.1.1.length : Int) + k) by omega), C.i, px_bs, e13, show pxJ α.2.2.2.2.2.1 + (1 : Int32) = pxJ (α.2.2.2.2.2.1 + 1) from pxJ_add _ 1, px_pI C.1, px_bs]
    have F1 : pxF (fun k f => k = 0 ∧ f = 13) h (jw_setI h 0 13 (pxJ (α.2.2.2.2.2.1 + 1))) := pxF.setI ⟨rfl, rfl⟩
    have f13 : pxM (jw_setI h 0 13 (pxJ (α.2.2.2.2.2.1 + 1))) 0 13 = α.2.2.2.2.2.1 + 1 := pxM_eq (by omega) (by omega)
    generalize jw_setI h 0 13 (pxJ (α.2.2.2.2.2.1 + 1)) = h1 at *
    have C1 : pwC h1 := C.fr F1 (fun f _ => by omega) (fun f => by omega)
    have I1 : pxIX h1 α.2.2.1 := pxIT.fr I F1 (fun k f _ _ => by omega)
    have D1 : pxHI h1 α.2.2.2.2.1 := D.fr F1 (fun k f z => by omega)
    obtain ⟨B1, S1, -⟩ := id D1
    rw [C1.r (11, 282) (by decide), px_bs, C1.r (6, 255) (by decide), px_bs, px_rc S1.1, px_bs]
    refine pxW_b2 (s_X3_note D1 I1) fun _ h2 q => ?_
    obtain ⟨F2, N2⟩ := q
    have F12 : pxF (fun k f => (k = 0 ∧ f = 13) ∨ (282 ≤ k ∧ k ≤ 530)) h h2 := (F1.mono (fun k f z => Or.inl z)).trans (F2.mono (fun k f z => Or.inr (by omega)))
    have A2 : pwN h2 (α.1, α.2.1, α.2.2.1, α.2.2.2.1, α.2.2.2.2.1, α.2.2.2.2.2.1 + 1, α.2.2.2.2.2.2) := ⟨C.fr F12 (fun f _ => by omega) (fun f => by omega), Tp.fr F12 (by omega) (fun f => by omega), Sc.fr F12 (fun k f _ _ => by omega), pxIT.fr I F12 (fun k f _ _ => by omega), pxIS.fr Y F12 (fun k f _ _ => by omega), N2, by rw [F2.m (by omega)]; exact f13, by rw [F12.m (by omega)]; exact e14, ⟨X.1.fr F12 (fun k f z => by omega), ⟨X.2.1.choose, X.2.1.choose_spec.fr F12 (fun k f z => by omega)⟩, X.2.2.1.fr F12 (fun k f _ _ => by omega), X.2.2.2.fr F12 (fun k f z => by omega)⟩⟩
    have hn2 : 587 ≤ jw_n h2 := by rw [F12.1]; exact hn
    have A3 := A2.n9 hn2
    rw [A2.1.r (6, 255) (by decide), px_bs, px_rc A2.2.2.2.1.1.1, px_bs]
    refine pxW_b2 (c_addSample (T := α.2.2.1) hn2 A3.2.2.2.1 (by omega) (by omega) (by omega) (by omega) b IV.2.2.2.2.2.1 nb) fun _ h4 q => ?_
    obtain ⟨F4, I4⟩ := q
    obtain ⟨C3, Tp3, Sc3, -, Y3, N3, g13, g14, X3⟩ := A3
    have C4 : pwC h4 := C3.fr F4 (fun f _ => by unfold pwQs; omega) (fun f => by unfold pwQs; omega)
    have N4 : pxHN h4 α.2.2.2.2.1 α.2.2.1 := N3.fr F4 (fun k f z => by unfold pwQs; omega)
    have k13 : pxM h4 0 13 = α.2.2.2.2.2.1 + 1 := by rw [F4.m (by unfold pwQs; omega)]; exact g13
    obtain ⟨B4, S4, -⟩ := id N4
    obtain ⟨h5, e5, F5, D5⟩ := s_X3_store (c := α.2.2.2.2.2.1 + 1) N4 (by omega) (by omega)
    have C5 : pwC h5 := C4.fr F5 (fun f _ => by omega) (fun f => by omega)
    have I5 := pxIT.fr I4 F5 (fun k f _ _ => by omega)
    have F35 : pxF (fun k f => pwQs (jw_n h2) k f ∨ k = 282 ∨ k = 284) (jw_n9 h2) h5 := (F4.mono (fun k f z => Or.inl z)).trans (F5.mono (fun k f z => Or.inr z))
    rw [C4.r (11, 282) (by decide), px_bs, C4.i, px_bs, k13, px_rc S4.1.1, px_bs, e5, px_b2, C5.r (6, 255) (by decide), px_bs, px_gR I5.1.1, I5.1.2.1, px_bs, px_gI I5.2.1.1.1, px_bs, I5.c2, show ((pzSs k.toNat z α.2.2.1.1 α.2.2.1.2.2.2).1.length : Int) = (α.2.2.1.1.length : Int) + k by rw [pzSs_len]; omega]
    refine pxW_some.mpr (pwY_0 (pwF.nw F12 F35 (fun k f z => by omega) (fun k f z => by unfold pwQs at z; omega) hn2) ⟨C5, Tp3.fr F35 (by unfold pwQs; omega) (fun f => by unfold pwQs; omega), Sc3.fr F35 (fun k f _ _ => by unfold pwQs; omega), I5, pxIS.fr Y3 F35 (fun k f _ _ => by unfold pwQs; omega), D5, ?_, ?_, ?_⟩)
    · rw [F5.m (by omega)]; exact k13
    · rw [F35.m (by unfold pwQs; omega)]; exact g14
    · obtain ⟨p, ⟨rep, a⟩, s, b⟩ := X3
      exact ⟨p.fr F35 (fun k f z => by unfold pwQs; omega), ⟨rep, a.fr F35 (fun k f z => by unfold pwQs; omega)⟩, s.fr F35 (fun k f _ _ => by unfold pwQs; omega), b.fr F35 (fun k f z => by unfold pwQs; omega)⟩
  · rw [if_neg (show ¬ (pxJ ((α.2.2.1.1.length : Int) + k) ≤ (40 : Int32)) from fun q => b ((pxJ_le (a := (α.2.2.1.1.length : Int) + k) (b := 40) (by omega) (by omega) (by omega) (by omega)).mp q)), if_pos (show 40 < (α.2.2.1.1.length : Int) + k by omega)]
    exact pxW_some.mpr (pwY_2 A)
end
