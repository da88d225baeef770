/-! what each call answers, and what it leaves: tape, scripts, text, stores, deeds, calls, reason -/
abbrev pzA : Type := List Int × (Int → Option (List Int)) × pxTx × pxSto × List (Int × pxSn) × Int × Int
abbrev pzR : Type := Int × Int × pzA
def pz4 (k : Int) : Prop := 0 ≤ k ∧ k < 4
def pz_type (c : Int) (α : pzA) : pzR := if c < 32 ∨ 126 < c then (1, 0, α) else if α.1.length = 60 then (2, 0, α) else (0, (α.1.length : Int) + 1, (α.1 ++ [c], α.2))
def pz_wipe (α : pzA) : pzR := (0, (α.1.length : Int), ([], α.2))
def pz_fault (α : pzA) : pzR := (0, (pxOrds α.1 61 0).1, α)
def pz_pf (α : pzA) : pzR := (0, pxTpF α.1, α)
def pzRunR (s : List Int) (α : pzA) : Int × Int × pxTx × pxSto × List (Int × pxSn) := pxRunL s (pxOrds s 61 0).2 (α.2.2.2.2.2.1 + 1) 61 0 0 0 α.2.2.1 α.2.2.2.1 false α.2.2.2.2.1
def pzRun (s : List Int) (α : pzA) : pzR := (0, (pzRunR s α).1, (α.1, α.2.1, (pzRunR s α).2.2.1, (pzRunR s α).2.2.2.1, (pzRunR s α).2.2.2.2, α.2.2.2.2.2.1 + 1, (pzRunR s α).2.1))
def pz_run (α : pzA) : pzR := if (pxOrds α.1 61 0).1 = -1 then pzRun α.1 α else (1, 0, α)
def pz_keep (k : Int) (α : pzA) : pzR := if ¬ (0 ≤ k ∧ k < 4) then (1, 0, α) else if (pxOrds α.1 61 0).1 = -1 then (0, (α.1.length : Int), (α.1, (fun j => if j = k then some α.1 else α.2.1 j), α.2.2)) else (2, 0, α)
def pz_play (k : Int) (α : pzA) : pzR := if ¬ (0 ≤ k ∧ k < 4) then (1, 0, α) else (α.2.1 k).elim (2, 0, α) (fun s => pzRun s α)
def pzPlyR (s : List Int) (α : pzA) : Int × Int × pxTx × pxSto := pxBPlay s (pxOrds s 61 0).2 α.2.2.1 α.2.2.2.1
def pzPly (s : List Int) (α : pzA) : pzR := (0, (pzPlyR s α).1, (α.1, α.2.1, (pzPlyR s α).2.2.1, (pzPlyR s α).2.2.2, (if (pzPlyR s α).2.1 = 0 then pxPush α.2.2.2.2.1 (α.2.2.2.2.2.1 + 1, pxSnap α.2.2.1) else α.2.2.2.2.1), α.2.2.2.2.2.1 + 1, (pzPlyR s α).2.1))
def pz_stream (k : Int) (α : pzA) : pzR := if ¬ (0 ≤ k ∧ k < 4) then (1, 0, α) else (α.2.1 k).elim (2, 0, α) (fun s => pzPly s α)
def pz_reason (α : pzA) : pzR := (0, α.2.2.2.2.2.2, α)
def pz_scl (k : Int) (α : pzA) : pzR := if ¬ (0 ≤ k ∧ k < 4) then (1, 0, α) else (0, (α.2.1 k).elim (-1) (fun s => (s.length : Int)), α)
def pz_sca (k j : Int) (α : pzA) : pzR := if ¬ (0 ≤ k ∧ k < 4) then (1, 0, α) else (α.2.1 k).elim (1, 0, α) (fun s => if 0 ≤ j ∧ j < (s.length : Int) then (0, pxE s j, α) else (1, 0, α))
/-- the latest deed, undone -/
def pzUn (α : pzA) : pzA := (α.2.2.2.2.1.getLast?).elim α (fun x => (α.1, α.2.1, (x.2.1, x.2.2.1, x.2.2.2, α.2.2.1.2.2.2), α.2.2.2.1, α.2.2.2.2.1.dropLast, α.2.2.2.2.2))
def pz_undo (α : pzA) : pzR := if α.2.2.2.2.1 = [] then (1, 0, α) else (0, (α.2.2.2.2.1.length : Int) - 1, pzUn α)
def pzUr (call : Int) : Nat → Int → pzA → Int × pzA
  | 0, u, α => (u, α)
  | m + 1, u, α => (α.2.2.2.2.1.getLast?).elim (u, α) (fun x => if x.1 = call then pzUr call m (u + 1) (pzUn α) else (u, α))
def pz_undoRun (α : pzA) : pzR := (α.2.2.2.2.1.getLast?).elim (1, 0, α) (fun x => (0, (pzUr x.1 α.2.2.2.2.1.length 0 α).1, (pzUr x.1 α.2.2.2.2.1.length 0 α).2))
def pz_deeds (α : pzA) : pzR := (0, (α.2.2.2.2.1.length : Int), α)
def pz_lines (α : pzA) : pzR := (0, (α.2.2.1.1.length : Int), α)
def pz_len (rs : List (List Int)) (x : Int) (α : pzA) : pzR := if 1 ≤ x ∧ x ≤ (rs.length : Int) then (0, pxLn rs x, α) else (1, 0, α)
def pz_at (rs : List (List Int)) (x y : Int) (α : pzA) : pzR := if 1 ≤ x ∧ x ≤ (rs.length : Int) ∧ 0 ≤ y ∧ y < pxLn rs x then (0, pxSg rs x y, α) else (1, 0, α)
def pz_id (x : Int) (α : pzA) : pzR := if 1 ≤ x ∧ x ≤ (α.2.2.1.1.length : Int) then (0, pxId α.2.2.1.1 x, α) else (1, 0, α)
def pz_lineOf (i : Int) (α : pzA) : pzR := (0, pxNo α.2.2.1.1 i, α)
def pz_present (α : pzA) : pzR := (0, α.2.2.1.2.2.1, α)
def pz_mark (k : Int) (α : pzA) : pzR := if 0 ≤ k ∧ k < 5 then (0, (if α.2.2.1.2.1 k = -1 then -1 else pxNo α.2.2.1.1 (α.2.2.1.2.1 k)), α) else (1, 0, α)
def pz_held (α : pzA) : pzR := (0, (α.2.2.2.1.1.length : Int), α)
def pz_outs (α : pzA) : pzR := (0, (α.2.2.2.1.2.1.length : Int), α)
def pz_clearOut (α : pzA) : pzR := (0, (α.2.2.2.1.2.1.length : Int), (α.1, α.2.1, α.2.2.1, (α.2.2.2.1.1, [], α.2.2.2.1.2.2), α.2.2.2.2))
def pz_frows (k : Int) (α : pzA) : pzR := if 0 ≤ k ∧ k < 4 then (0, ((α.2.2.2.1.2.2 k).length : Int), α) else (1, 0, α)
def pz_flen (k x : Int) (α : pzA) : pzR := if 0 ≤ k ∧ k < 4 then pz_len (α.2.2.2.1.2.2 k) x α else (1, 0, α)
def pz_fat (k x y : Int) (α : pzA) : pzR := if 0 ≤ k ∧ k < 4 then pz_at (α.2.2.2.1.2.2 k) x y α else (1, 0, α)
def pz_find (back : Bool) (α : pzA) : pzR := if pxTpF α.1 = -1 then (0, pxLW α.1 (pxFull α.1 0) (pxRs α.2.2.1.1) back α.2.2.1.1.length α.2.2.1.2.2.1, α) else (1, 0, α)
def pz_fse (en : Bool) (x : Int) (α : pzA) : pzR := if ¬ (1 ≤ x ∧ x ≤ (α.2.2.1.1.length : Int)) then (1, 0, α) else if pxTpF α.1 = -1 then (0, (pxFind α.1 (pxRw (pxRs α.2.2.1.1) x) (pxFull α.1 0) 0 false).elim (-1) (fun w => if en = true then w.2.1 else w.1), α) else (2, 0, α)
def pz_isSound (α : pzA) : pzR := (0, 1, α)
/-- the sample's lots -/
def pzLot (z : Int) : Int := (25173 * z + 13849) % 65536
def pzSr : Nat → Int → List Int → Int × List Int
  | 0, z, w => (z, w)
  | m + 1, z, w => pzSr m (pzLot z) (w ++ [if pzLot z / 16 % 6 = 5 then 32 else 97 + pzLot z / 16 % 6])
def pzSs : Nat → Int → pxLs → Int → pxLs × Int
  | 0, _, ls, nx => (ls, nx)
  | m + 1, z, ls, nx => pzSs m (pzSr (pzLot z / 16 % 9).toNat (pzLot z) []).1 (ls ++ [(nx, (pzSr (pzLot z / 16 % 9).toNat (pzLot z) []).2)]) (nx + 1)
def pz_sample (z n : Int) (α : pzA) : pzR := if ¬ (0 ≤ z ∧ z ≤ 65535 ∧ 1 ≤ n ∧ n ≤ 20) then (1, 0, α) else if 40 < (α.2.2.1.1.length : Int) + n then (2, 0, α) else
  (0, (α.2.2.1.1.length : Int) + n, (α.1, α.2.1, ((pzSs n.toNat z α.2.2.1.1 α.2.2.1.2.2.2).1, α.2.2.1.2.1, (α.2.2.1.1.length : Int) + n, (pzSs n.toNat z α.2.2.1.1 α.2.2.1.2.2.2).2), α.2.2.2.1, pxPush α.2.2.2.2.1 (α.2.2.2.2.2.1 + 1, pxSnap α.2.2.1), α.2.2.2.2.2.1 + 1, α.2.2.2.2.2.2))
/-- what lines and rows have in common from a on and from b on -/
def pzCm (rs fs : List (List Int)) : Nat → Int → Int → Int
  | 0, _, _ => 0
  | m + 1, a, b => if (rs.length : Int) < a ∨ (fs.length : Int) < b then 0 else if pxRw rs a = pxRw fs b then pzCm rs fs m (a + 1) (b + 1) + 1 else max (pzCm rs fs m (a + 1) b) (pzCm rs fs m a (b + 1))
def pzCo (rs fs : List (List Int)) (a b : Int) : Int := pzCm rs fs 90 a b
def pzPr (rs fs : List (List Int)) : Nat → Int → Int → Int → (Int → Int) → Int × (Int → Int)
  | 0, _, _, n, pr => (n, pr)
  | m + 1, a, b, n, pr => if (rs.length : Int) < a ∨ (fs.length : Int) < b then (n, pr) else if pxRw rs a = pxRw fs b then pzPr rs fs m (a + 1) (b + 1) (n + 1) (fun j => if j = a then b else pr j) else if pzCo rs fs (a + 1) b < pzCo rs fs a (b + 1) then pzPr rs fs m a (b + 1) n pr else pzPr rs fs m (a + 1) b n pr
def pzPairs (k : Int) (α : pzA) : Int × (Int → Int) := pzPr (pxRs α.2.2.1.1) (α.2.2.2.1.2.2 k) 80 1 1 0 (fun _ => -1)
def pz_differ (k : Int) (α : pzA) : pzR := if 0 ≤ k ∧ k < 4 then (0, (α.2.2.1.1.length : Int) + ((α.2.2.2.1.2.2 k).length : Int) - 2 * (pzPairs k α).1, α) else (1, 0, α)
def pz_pairOf (k x : Int) (α : pzA) : pzR := if 0 ≤ k ∧ k < 4 ∧ 1 ≤ x ∧ x ≤ (α.2.2.1.1.length : Int) then (0, (pzPairs k α).2 x, α) else (1, 0, α)
/-- what holds after n calls -/
def pzOk (n : Int) (α : pzA) : Prop := pxTp α.1 ∧ (∀ k s, 0 ≤ k → k < 4 → α.2.1 k = some s → pxTp s ∧ (pxOrds s 61 0).1 = -1) ∧ pxInv α.2.2.1 ∧ pxInvS α.2.2.2.1 ∧ pxDok α.2.2.2.2.1 α.2.2.1.2.2.2 ∧ α.2.2.2.2.1.length ≤ 40 ∧ α.2.2.1.2.2.2 ≤ 2400 * n ∧ (0 ≤ n ∧ n ≤ 600) ∧ (0 ≤ α.2.2.2.2.2.1 ∧ α.2.2.2.2.2.1 ≤ n) ∧ True
/-- the reference's state -/
def pySc (h : jw_H) (sc : Int → Option (List Int)) : Prop := ∀ k : Int, 0 ≤ k → k < 4 → (sc k = none → pxM h 591 k.toNat = 0) ∧ ∀ s, sc k = some s → pxM h 591 k.toNat = 1 ∧ pxM h 590 k.toNat = s.length ∧ ∀ j : Int, 0 ≤ j → j < s.length → pxM h 589 (60 * k + j).toNat = pxE s j
def pyTpe (h : jw_H) (t : List Int) : Prop := pxM h 587 2 = t.length ∧ ∀ j : Int, 0 ≤ j → j < t.length → pxM h 588 j.toNat = pxE t j
def pyA (h : jw_H) (α : pzA) : Prop := pyS h ∧ pyTpe h α.1 ∧ pySc h α.2.1 ∧ pyX h α.2.2.1 ∧ pyY h α.2.2.2.1 ∧ pyDI h α.2.2.2.2.1 ∧ pxM h 587 63 = α.2.2.2.2.2.1 ∧ pxM h 587 18 = α.2.2.2.2.2.2
/-- what the state's parts stand on -/
def pyQA0 : Nat → Nat → Prop := fun k f => k = 588 ∨ k = 589 ∨ k = 590 ∨ k = 591 ∨ (k = 592 ∧ f < 11997) ∨ (k = 593 ∧ f < 40) ∨ (k = 596 ∧ f < 5) ∨ (k = 597 ∧ f < 4) ∨ (608 ≤ k ∧ k ≤ 613) ∨ (k = 587 ∧ (f = 2 ∨ f = 12 ∨ f = 14 ∨ f = 15 ∨ f = 16 ∨ f = 17 ∨ f = 18 ∨ f = 61 ∨ f = 62 ∨ f = 63))
theorem pyTpe.keep {P : Nat → Nat → Prop} {h h1 : jw_H} {t : List Int} (A : pyTpe h t) (V : pyV P h h1) (n : ¬ P 587 2) (n2 : ∀ f, ¬ P 588 f) : pyTpe h1 t :=
  ⟨by rw [V.m n]; exact A.1, fun j j0 j1 => by rw [V.m (n2 _)]; exact A.2 j j0 j1⟩
theorem pySc.keep {P : Nat → Nat → Prop} {h h1 : jw_H} {sc : Int → Option (List Int)} (A : pySc h sc) (V : pyV P h h1) (n : ∀ k f, (k = 589 ∨ k = 590 ∨ k = 591) → ¬ P k f) : pySc h1 sc := by
  intro k k0 k4
  obtain ⟨a, b⟩ := A k k0 k4
  refine ⟨fun z => by rw [V.m (n _ _ (by omega))]; exact a z, fun s z => ?_⟩
  obtain ⟨b1, b2, b3⟩ := b s z
  exact ⟨by rw [V.m (n _ _ (by omega))]; exact b1, by rw [V.m (n _ _ (by omega))]; exact b2, fun j j0 j1 => by rw [V.m (n _ _ (by omega))]; exact b3 j j0 j1⟩
theorem pyA.keep {P : Nat → Nat → Prop} {h h1 : jw_H} {α : pzA} (A : pyA h α) (V : pyV P h h1) (n : ∀ k f, pyQA0 k f → ¬ P k f) : pyA h1 α := by
  obtain ⟨H, Tp, Sc, X, Y, D, e63, e18⟩ := A
  exact ⟨V.s H, Tp.keep V (n _ _ (by unfold pyQA0; omega)) (fun f => n _ _ (by unfold pyQA0; omega)), Sc.keep V (fun k f z => n _ _ (by unfold pyQA0; omega)), X.keep V (fun k f z => n _ _ (by unfold pyQA0; omega)), Y.keep V (fun k f z => n _ _ (by unfold pyQA0; omega)), D.keep V (fun k f z => n _ _ (by unfold pyQnd at z; unfold pyQA0; omega)), by rw [V.m (n _ _ (by unfold pyQA0; omega))]; exact e63, by rw [V.m (n _ _ (by unfold pyQA0; omega))]; exact e18⟩
/-- all that the reference may change -/
def pyQZ : Nat → Nat → Prop := fun k _ => 587 ≤ k ∧ k ≤ 618
/-- what a call of the reference comes to -/
def pyZ (h : jw_H) (R : pzR) (v : Int32) (h' : jw_H) : Prop := pyV pyQZ h h' ∧ pxM h' 587 0 = R.1 ∧ (R.1 = 0 → v = pxJ R.2.1) ∧ pyA h' R.2.2
/-- the thrown code alone is noted -/
theorem pyZ_0 {h : jw_H} {α : pzA} {t v : Int} {w : Int32} (A : pyA h α) (t0 : 0 ≤ t) (t1 : t ≤ 10) (e : t = 0 → w = pxJ v) : pyZ h (t, v, α) w (jw_setI h 587 0 (pxJ t)) := by
  have V : pyV (fun k f => k = 587 ∧ f = 0) h (jw_setI h 587 0 (pxJ t)) := pyV.rfl.set ⟨rfl, rfl⟩
  exact ⟨V.mono (fun k f z => by unfold pyQZ; omega), by rw [pxM_eq (by omega) (by omega)], e, A.keep V (fun k f z => by unfold pyQA0 at z; omega)⟩
