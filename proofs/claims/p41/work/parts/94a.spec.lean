/-! what each call answers, and what it leaves: tape, scripts, text, stores, deeds, calls, reason -/
abbrev pzA : Type := List Int × (Int → Option (List Int)) × pxTx × pxSto × List (Int × pxSn) × Int × Int
abbrev pzR : Type := Int × Int × pzA
def pz4 (k : Int) : Prop := 0 ≤ k ∧ k < 4
def pz_type (c : Int) (α : pzA) : pzR := if c < 32 ∨ 126 < c then (1, 0, α) else if α.1.length = 60 then (2, 0, α) else (0, (α.1.length : Int) + 1, (α.1 ++ [c], α.2))
def pz_wipe (α : pzA) : pzR := (0, (α.1.length : Int), ([], α.2))
def pz_fault (α : pzA) : pzR := (0, (pxOrds α.1 61 0).1, α)
def pz_pf (α : pzA) : pzR := (0, pxTpF α.1, α)
def pzRunR (s : List Int) (α : pzA) : Int × Int × pxTx × pxSto × List (Int × pxSn) := pxRunL s (pxOrds s 61 0).2 (α.2.2.2.2.2.1 + 1) 61 0 0 0 α.2.2.1 α.2.2.2.1 false α.2.2.2.2.1
def pzRun (s : List Int) (α : pzA) : pzR := (0, (pzRunR s α).1, (α.1, α.2.1, (pzRunR s α).2.2.1, (pzRunR s α).2.2.2.1, (pzRunR s α).2.2.2.2, α.2.2.2.2.2.1 + 1, (pzRunR s α).2.1))
def pz_run (α : pzA) : pzR := if (pxOrds α.1 61 0).1 = -1 then pzRun α.1 α else (1, 0, α)
def pz_keep (k : Int) (α : pzA) : pzR := if ¬ (0 ≤ k ∧ k < 4) then (1, 0, α) else if (pxOrds α.1 61 0).1 = -1 then (0, (α.1.length : Int), (α.1, (fun j => if j = k then some α.1 else α.2.1 j), α.2.2)) else (2, 0, α)
def pz_play (k : Int) (α : pzA) : pzR := if ¬ (0 ≤ k ∧ k < 4) then (1, 0, α) else (α.2.1 k).elim (2, 0, α) (fun s => pzRun s α)
def pzPlyR (s : List Int) (α : pzA) : Int × Int × pxTx × pxSto := pxBPlay s (pxOrds s 61 0).2 α.2.2.1 α.2.2.2.1
def pzPly (s : List Int) (α : pzA) : pzR := (0, (pzPlyR s α).1, (α.1, α.2.1, (pzPlyR s α).2.2.1, (pzPlyR s α).2.2.2, (if (pzPlyR s α).2.1 = 0 then pxPush α.2.2.2.2.1 (α.2.2.2.2.2.1 + 1, pxSnap α.2.2.1) else α.2.2.2.2.1), α.2.2.2.2.2.1 + 1, (pzPlyR s α).2.1))
def pz_stream (k : Int) (α : pzA) : pzR := if ¬ (0 ≤ k ∧ k < 4) then (1, 0, α) else (α.2.1 k).elim (2, 0, α) (fun s => pzPly s α)
def pz_reason (α : pzA) : pzR := (0, α.2.2.2.2.2.2, α)
def pz_scl (k : Int) (α : pzA) : pzR := if ¬ (0 ≤ k ∧ k < 4) then (1, 0, α) else (0, (α.2.1 k).elim (-1) (fun s => (s.length : Int)), α)
def pz_sca (k j : Int) (α : pzA) : pzR := if ¬ (0 ≤ k ∧ k < 4) then (1, 0, α) else (α.2.1 k).elim (1, 0, α) (fun s => if 0 ≤ j ∧ j < (s.length : Int) then (0, pxE s j, α) else (1, 0, α))
/-- the latest deed, undone -/
def pzUn (α : pzA) : pzA := (α.2.2.2.2.1.getLast?).elim α (fun x => (α.1, α.2.1, (x.2.1, x.2.2.1, x.2.2.2, α.2.2.1.2.2.2), α.2.2.2.1, α.2.2.2.2.1.dropLast, α.2.2.2.2.2))
def pz_undo (α : pzA) : pzR := if α.2.2.2.2.1 = [] then (1, 0, α) else (0, (α.2.2.2.2.1.length : Int) - 1, pzUn α)
def pzUr (call : Int) : Nat → Int → pzA → Int × pzA
  | 0, u, α => (u, α)
  | m + 1, u, α => (α.2.2.2.2.1.getLast?).elim (u, α) (fun x => if x.1 = call then pzUr call m (u + 1) (pzUn α) else (u, α))
def pz_undoRun (α : pzA) : pzR := (α.2.2.2.2.1.getLast?).elim (1, 0, α) (fun x => (0, (pzUr x.1 α.2.2.2.2.1.length 0 α).1, (pzUr x.1 α.2.2.2.2.1.length 0 α).2))
def pz_deeds (α : pzA) : pzR := (0, (α.2.2.2.2.1.length : Int), α)
def pz_lines (α : pzA) : pzR := (0, (α.2.2.1.1.length : Int), α)
def pz_len (rs : List (List Int)) (x : Int) (α : pzA) : pzR := if 1 ≤ x ∧ x ≤ (rs.length : Int) then (0, pxLn rs x, α) else (1, 0, α)
def pz_at (rs : List (List Int)) (x y : Int) (α : pzA) : pzR := if 1 ≤ x ∧ x ≤ (rs.length : Int) ∧ 0 ≤ y ∧ y < pxLn rs x then (0, pxSg rs x y, α) else (1, 0, α)
def pz_id (x : Int) (α : pzA) : pzR := if 1 ≤ x ∧ x ≤ (α.2.2.1.1.length : Int) then (0, pxId α.2.2.1.1 x, α) else (1, 0, α)
def pz_lineOf (i : Int) (α : pzA) : pzR := (0, pxNo α.2.2.1.1 i, α)
def pz_present (α : pzA) : pzR := (0, α.2.2.1.2.2.1, α)
def pz_mark (k : Int) (α : pzA) : pzR := if 0 ≤ k ∧ k < 5 then (0, (if α.2.2.1.2.1 k = -1 then -1 else pxNo α.2.2.1.1 (α.2.2.1.2.1 k)), α) else (1, 0, α)
def pz_held (α : pzA) : pzR := (0, (α.2.2.2.1.1.length : Int), α)
def pz_outs (α : pzA) : pzR := (0, (α.2.2.2.1.2.1.length : Int), α)
def pz_clearOut (α : pzA) : pzR := (0, (α.2.2.2.1.2.1.length : Int), (α.1, α.2.1, α.2.2.1, (α.2.2.2.1.1, [], α.2.2.2.1.2.2), α.2.2.2.2))
def pz_frows (k : Int) (α : pzA) : pzR := if 0 ≤ k ∧ k < 4 then (0, ((α.2.2.2.1.2.2 k).length : Int), α) else (1, 0, α)
def pz_flen (k x : Int) (α : pzA) : pzR := if 0 ≤ k ∧ k < 4 then pz_len (α.2.2.2.1.2.2 k) x α else (1, 0, α)
def pz_fat (k x y : Int) (α : pzA) : pzR := if 0 ≤ k ∧ k < 4 then pz_at (α.2.2.2.1.2.2 k) x y α else (1, 0, α)
def pz_find (back : Bool) (α : pzA) : pzR := if pxTpF α.1 = -1 then (0, pxLW α.1 (pxFull α.1 0) (pxRs α.2.2.1.1) back α.2.2.1.1.length α.2.2.1.2.2.1, α) else (1, 0, α)
def pz_fse (en : Bool) (x : Int) (α : pzA) : pzR := if ¬ (1 ≤ x ∧ x ≤ (α.2.2.1.1.length : Int)) then (1, 0, α) else if pxTpF α.1 = -1 then (0, (pxFind α.1 (pxRw (pxRs α.2.2.1.1) x) (pxFull α.1 0) 0 false).elim (-1) (fun w => if en = true then w.2.1 else w.1), α) else (2, 0, α)
def pz_isSound (α : pzA) : pzR := (0, 1, α)
/-- the sample's lots -/
def pzLot (z : Int) : Int := (25173 * z + 13849) % 65536
def pzSr : Nat → Int → List Int → Int × List Int
  | 0, z, w => (z, w)
  | m + 1, z, w => pzSr m (pzLot z) (w ++ [if pzLot z / 16 % 6 = 5 then 32 else 97 + pzLot z / 16 % 6])
def pzSs : Nat → Int → pxLs → Int → pxLs × Int
  | 0, _, ls, nx => (ls, nx)
  | m + 1, z, ls, nx => pzSs m (pzSr (pzLot z / 16 % 9).toNat (pzLot z) []).1 (ls ++ [(nx, (pzSr (pzLot z / 16 % 9).toNat (pzLot z) []).2)]) (nx + 1)
def pz_sample (z n : Int) (α : pzA) : pzR := if ¬ (0 ≤ z ∧ z ≤ 65535 ∧ 1 ≤ n ∧ n ≤ 20) then (1, 0, α) else if 40 < (α.2.2.1.1.length : Int) + n then (2, 0, α) else
  (0, (α.2.2.1.1.length : Int) + n, (α.1, α.2.1, ((pzSs n.toNat z α.2.2.1.1 α.2.2.1.2.2.2).1, α.2.2.1.2.1, (α.2.2.1.1.length : Int) + n, (pzSs n.toNat z α.2.2.1.1 α.2.2.1.2.2.2).2), α.2.2.2.1, pxPush α.2.2.2.2.1 (α.2.2.2.2.2.1 + 1, pxSnap α.2.2.1), α.2.2.2.2.2.1 + 1, α.2.2.2.2.2.2))
/-- what lines and rows have in common from a on and from b on -/
def pzCm (rs fs : List (List Int)) : Nat → Int → Int → Int
  | 0, _, _ => 0
  | m + 1, a, b => if (rs.length : Int) < a ∨ (fs.length : Int) < b then 0 else if pxRw rs a = pxRw fs b then pzCm rs fs m (a + 1) (b + 1) + 1 else max (pzCm rs fs m (a + 1) b) (pzCm rs fs m a (b + 1))
def pzCo (rs fs : List (List Int)) (a b : Int) : Int := pzCm rs fs 90 a b
def pzPr (rs fs : List (List Int)) : Nat → Int → Int → Int → (Int → Int) → Int × (Int → Int)
  | 0, _, _, n, pr => (n, pr)
  | m + 1, a, b, n, pr => if (rs.length : Int) < a ∨ (fs.length : Int) < b then (n, pr) else if pxRw rs a = pxRw fs b then pzPr rs fs m (a + 1) (b + 1) (n + 1) (fun j => if j = a then b else pr j) else if pzCo rs fs (a + 1) b < pzCo rs fs a (b + 1) then pzPr rs fs m a (b + 1) n pr else pzPr rs fs m (a + 1) b n pr
def pzPairs (k : Int) (α : pzA) : Int × (Int → Int) := pzPr (pxRs α.2.2.1.1) (α.2.2.2.1.2.2 k) 80 1 1 0 (fun _ => -1)
def pz_differ (k : Int) (α : pzA) : pzR := if 0 ≤ k ∧ k < 4 then (0, (α.2.2.1.1.length : Int) + ((α.2.2.2.1.2.2 k).length : Int) - 2 * (pzPairs k α).1, α) else (1, 0, α)
def pz_pairOf (k x : Int) (α : pzA) : pzR := if 0 ≤ k ∧ k < 4 ∧ 1 ≤ x ∧ x ≤ (α.2.2.1.1.length : Int) then (0, (pzPairs k α).2 x, α) else (1, 0, α)
/-- what holds after n calls -/
def pzOk (n : Int) (α : pzA) : Prop := pxTp α.1 ∧ (∀ k s, 0 ≤ k → k < 4 → α.2.1 k = some s → pxTp s ∧ (pxOrds s 61 0).1 = -1) ∧ pxInv α.2.2.1 ∧ pxInvS α.2.2.2.1 ∧ pxDok α.2.2.2.2.1 α.2.2.1.2.2.2 ∧ α.2.2.2.2.1.length ≤ 40 ∧ α.2.2.1.2.2.2 ≤ 2400 * n ∧ (0 ≤ n ∧ n ≤ 600) ∧ (0 ≤ α.2.2.2.2.2.1 ∧ α.2.2.2.2.2.1 ≤ n) ∧ True
