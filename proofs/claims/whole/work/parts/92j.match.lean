/-! the reference: the stars tried one by one come to the same -/
theorem pyDesc_none {α : Type} {f : Int → Option α} : ∀ (n : Nat) (x : Int), (∀ y, x - n < y → y ≤ x → f y = none) → pxDesc f n x = none
  | 0, _, _ => rfl
  | n + 1, x, h => by
    unfold pxDesc
    rw [h x (by omega) (by omega)]
    exact pyDesc_none n (x - 1) (fun y a b => h y (by omega) (by omega))
theorem pyDesc_skip {α : Type} {f : Int → Option α} : ∀ (k n : Nat) (x : Int), (∀ y, x - k < y → y ≤ x → f y = none) → pxDesc f (k + n) x = pxDesc f n (x - k)
  | 0, n, x, _ => by rw [Nat.zero_add, show x - ((0 : Nat) : Int) = x by omega]
  | k + 1, n, x, h => by
    rw [show k + 1 + n = (k + n) + 1 by omega]
    unfold pxDesc
    rw [h x (by omega) (by omega)]
    show pxDesc f (k + n) (x - 1) = _
    rw [pyDesc_skip k n (x - 1) (fun y a b => h y (by omega) (by omega)), show x - 1 - (k : Int) = x - ((k + 1 : Nat) : Int) by omega]
    cases n <;> rfl
theorem pyDesc_cg {α : Type} {f g : Int → Option α} : ∀ (n : Nat) (x : Int), (∀ y, x - n < y → y ≤ x → f y = g y) → pxDesc f n x = pxDesc g n x
  | 0, _, _ => rfl
  | n + 1, x, h => by
    unfold pxDesc
    rw [h x (by omega) (by omega), pyDesc_cg n (x - 1) (fun y a b => h y (by omega) (by omega))]
theorem pyDesc_shift {α : Type} {f : Int → Option α} {a : Int} : ∀ (n : Nat) (x : Int), pxDesc (fun y => f (y + a)) n x = pxDesc f n (x + a)
  | 0, _ => rfl
  | n + 1, x => by
    unfold pxDesc
    rw [pyDesc_shift n (x - 1), show x - 1 + a = x + a - 1 by omega]
theorem pyStar {α : Type} {G : Int → Option α} {x n T : Int} (x1 : x ≤ n) (hT : n - x ≤ T) : pxDesc (fun w => if x + w ≤ n then G (x + w) else none) (T + 1).toNat T = pxDesc G (n - x + 1).toNat n := by
  rw [show (T + 1).toNat = (T - (n - x)).toNat + (n - x + 1).toNat by omega, pyDesc_skip _ _ _ (fun y a b => if_neg (by omega)), show T - ((T - (n - x)).toNat : Int) = n - x by omega]
  rw [pyDesc_cg (g := fun w => G (w + x)) _ _ (fun y a b => by rw [if_pos (by omega), Int.add_comm]), pyDesc_shift, show n - x + x = n by omega]
def pyTl (ae : Bool) : List (Int × Int) := (if ae = true then [(9, 0)] else []) ++ [(10, 0)]
def pyFin (r : List Int) (ae : Bool) (v : Int × (Int → Int) × (Int → Int)) : Option (Int × (Int → Int) × (Int → Int)) := if ae = true ∧ v.1 ≠ r.length then none else some v
def pyE7 (e : Int × Int) : Prop := 1 ≤ e.1 ∧ e.1 ≤ 7
def pyGp (g q x : Int) (o c : Int → Int) : Prop := (∀ k : Int, 1 ≤ k → k ≤ g → o k ≤ x) ∧ ∀ k : Int, 1 ≤ k → k ≤ q → o k ≤ c k
theorem pyTl_fit {s r : List Int} {ae : Bool} {o c : Int → Int} {x : Int} : pxFit s r (pyTl ae) o c x = pyFin r ae (x, o, c) := by
  unfold pyTl pyFin
  cases ae
  · rfl
  · by_cases d : x = r.length
    · rw [if_neg (show ¬ (true = true ∧ ((x, o, c) : Int × (Int → Int) × (Int → Int)).1 ≠ r.length) from fun z => z.2 d)]
      show pxFit s r [(9, 0), (10, 0)] o c x = _
      simp [pxFit, d]
    · rw [if_pos (show true = true ∧ ((x, o, c) : Int × (Int → Int) × (Int → Int)).1 ≠ r.length from ⟨rfl, d⟩)]
      show pxFit s r [(9, 0), (10, 0)] o c x = _
      simp [pxFit, d]
/-- how far a pattern fits, by one of its elements that is no star -/
def pyStep (s r : List Int) (e : Int × Int) (o c : Int → Int) (x : Int) : Option ((Int → Int) × (Int → Int) × Int) :=
  if e.1 = 5 then some (pxU o e.2 x, c, x) else if e.1 = 6 then some (o, pxU c e.2 x, x)
  else if e.1 = 7 then (if pxBk r (c e.2 - o e.2).toNat (o e.2) x = true then some (o, c, x + (c e.2 - o e.2)) else none)
  else if x < r.length ∧ pxHb s e (pxE r x) = true then some (o, c, x + 1) else none
theorem pyStep_fit {s r : List Int} {e : Int × Int} {l : List (Int × Int)} {o c : Int → Int} {x : Int} (e7 : pyE7 e) (e3 : e.1 ≠ 3) : pxFit s r (e :: l) o c x = (pyStep s r e o c x).elim none (fun v => pxFit s r l v.1 v.2.1 v.2.2) := by
  unfold pyE7 at e7
  show (if e.1 = 3 then _ else _) = _
  rw [if_neg e3]
  unfold pyStep
  by_cases c5 : e.1 = 5
  · rw [if_pos c5, if_pos c5]; rfl
  rw [if_neg c5, if_neg c5]
  by_cases c6 : e.1 = 6
  · rw [if_pos c6, if_pos c6]; rfl
  rw [if_neg c6, if_neg c6]
  by_cases c7 : e.1 = 7
  · rw [if_pos c7, if_pos c7]
    by_cases b : pxBk r (c e.2 - o e.2).toNat (o e.2) x = true
    · rw [if_pos b, if_pos b]; rfl
    · rw [if_neg b, if_neg b]; rfl
  rw [if_neg c7, if_neg c7, if_neg (by omega), if_neg (by omega), if_neg (by omega)]
  by_cases b : x < r.length ∧ pxHb s e (pxE r x) = true
  · rw [if_pos b, if_pos b]; rfl
  · rw [if_neg b, if_neg b]; rfl
theorem pyStep_det {s r : List Int} {one other : Int} {e : Int × Int} {l : List (Int × Int)} {o c : Int → Int} {x t : Int} (e3 : e.1 ≠ 3) : pyDet s r one other (e :: l) o c x t = (pyStep s r e o c x).elim none (fun v => pyDet s r one other l v.1 v.2.1 v.2.2 t) := by
  show (if e.1 = 5 then _ else _) = _
  unfold pyStep
  by_cases c5 : e.1 = 5
  · rw [if_pos c5, if_pos c5]; rfl
  rw [if_neg c5, if_neg c5]
  by_cases c6 : e.1 = 6
  · rw [if_pos c6, if_pos c6]; rfl
  rw [if_neg c6, if_neg c6, if_neg e3]
  by_cases c7 : e.1 = 7
  · rw [if_pos c7, if_pos c7]
    by_cases b : pxBk r (c e.2 - o e.2).toNat (o e.2) x = true
    · rw [if_pos b, if_pos b]; rfl
    · rw [if_neg b, if_neg b]; rfl
  rw [if_neg c7, if_neg c7]
  by_cases b : x < r.length ∧ pxHb s e (pxE r x) = true
  · rw [if_pos b, if_pos b]; rfl
  · rw [if_neg b, if_neg b]; rfl
theorem pyStep_gp {s r : List Int} {e : Int × Int} {l : List (Int × Int)} {o c : Int → Int} {x g q t : Int} (e7 : pyE7 e) (e3 : e.1 ≠ 3) (W : pxWE g q t (e :: l)) (I : pyGp g q x o c) (x1 : x ≤ r.length) {v : (Int → Int) × (Int → Int) × Int} (hv : pyStep s r e o c x = some v) : ∃ g' q', pxWE g' q' t l ∧ pyGp g' q' v.2.2 v.1 v.2.1 ∧ x ≤ v.2.2 ∧ v.2.2 ≤ r.length := by
  unfold pyE7 at e7
  obtain ⟨w5, w6, w7, w3, W⟩ := W.resolve_left (show e.1 ≠ 10 by omega)
  rw [if_neg e3] at W
  unfold pyStep at hv
  by_cases c5 : e.1 = 5
  · rw [if_pos c5] at hv
    cases Option.some.inj hv
    obtain ⟨y1, y2, y3⟩ := w5 c5
    rw [if_pos c5, if_neg (show ¬ e.1 = 6 by omega)] at W
    refine ⟨g + 1, q, W, ⟨fun k k1 k2 => ?_, fun k k1 k2 => ?_⟩, Int.le_refl _, x1⟩
    · show pxU o e.2 x k ≤ x
      by_cases d : k = e.2
      · rw [d, pxU_e]; exact Int.le_refl _
      · rw [pxU_n d]; exact I.1 k k1 (by omega)
    · show pxU o e.2 x k ≤ c k
      rw [pxU_n (by omega)]; exact I.2 k k1 k2
  rw [if_neg c5] at hv W
  by_cases c6 : e.1 = 6
  · rw [if_pos c6] at hv
    cases Option.some.inj hv
    obtain ⟨y1, y2⟩ := w6 c6
    rw [if_pos c6] at W
    refine ⟨g, q + 1, W, ⟨fun k k1 k2 => I.1 k k1 k2, fun k k1 k2 => ?_⟩, Int.le_refl _, x1⟩
    show o k ≤ pxU c e.2 x k
    by_cases d : k = e.2
    · rw [d, pxU_e]; exact I.1 e.2 (by omega) (by omega)
    · rw [pxU_n d]; exact I.2 k k1 (by omega)
  rw [if_neg c6] at hv W
  by_cases c7 : e.1 = 7
  · rw [if_pos c7] at hv
    obtain ⟨y1, y2⟩ := w7 c7
    have a := I.2 e.2 y1 y2
    by_cases b : pxBk r (c e.2 - o e.2).toNat (o e.2) x = true
    · rw [if_pos b] at hv
      cases Option.some.inj hv
      have xx : x + (c e.2 - o e.2) ≤ r.length := by
        by_cases z : x + (c e.2 - o e.2) ≤ r.length
        · exact z
        · rw [pxBk_no (r := r) (c e.2 - o e.2).toNat (o e.2) x (by omega) x1] at b; cases b
      exact ⟨g, q, W, ⟨fun k k1 k2 => by have := I.1 k k1 k2; dsimp only; omega, I.2⟩, by dsimp only; omega, xx⟩
    · rw [if_neg b] at hv; cases hv
  rw [if_neg c7] at hv
  by_cases b : x < r.length ∧ pxHb s e (pxE r x) = true
  · rw [if_pos b] at hv
    cases Option.some.inj hv
    exact ⟨g, q, W, ⟨fun k k1 k2 => by have := I.1 k k1 k2; dsimp only; omega, I.2⟩, by dsimp only; omega, by dsimp only; omega⟩
  · rw [if_neg b] at hv; cases hv
theorem pyFit_0 {s r : List Int} {ae : Bool} {one other : Int} : ∀ (l : List (Int × Int)) (o c : Int → Int) (x t : Int), (∀ y ∈ l, pyE7 y) → pyStn l = 0 → pxFit s r (l ++ pyTl ae) o c x = (pyDet s r one other l o c x t).bind (pyFin r ae)
  | [], o, c, x, t, _, _ => by rw [List.nil_append, pyTl_fit]; rfl
  | e :: l, o, c, x, t, h7, hs => by
    have e7 := h7 e (by simp)
    have sl := pyStn_0 l
    have e3 : e.1 ≠ 3 := by
      intro z
      unfold pyStn at hs
      rw [if_pos z] at hs
      omega
    unfold pyStn at hs
    rw [if_neg e3] at hs
    rw [List.cons_append, pyStep_fit e7 e3, pyStep_det e3]
    cases z : pyStep s r e o c x with
    | none => rfl
    | some v => exact pyFit_0 l v.1 v.2.1 v.2.2 t (fun y hy => h7 y (by simp [hy])) (by omega)
theorem pyFit_1 {s r : List Int} {ae : Bool} {t : Int} {sel : Int → Int × Int} (hs : ∀ w, (if t = 0 then (sel w).1 else (sel w).2) = w) : ∀ (l : List (Int × Int)) (o c : Int → Int) (x g q tt T : Int), (∀ y ∈ l, pyE7 y) → pyStn l = 1 → pxWE g q tt (l ++ pyTl ae) → pyGp g q x o c → x ≤ r.length → r.length - x ≤ T →
    pxFit s r (l ++ pyTl ae) o c x = pxDesc (fun w => (pyDet s r (sel w).1 (sel w).2 l o c x t).bind (pyFin r ae)) (T + 1).toNat T
  | [], _, _, _, _, _, _, _, _, h, _, _, _, _ => by unfold pyStn at h; omega
  | e :: l, o, c, x, g, q, tt, T, h7, hn, W, I, x1, hT => by
    have e7 := h7 e (by simp)
    have h7' : ∀ y ∈ l, pyE7 y := fun y hy => h7 y (by simp [hy])
    by_cases e3 : e.1 = 3
    · unfold pyStn at hn
      rw [if_pos e3] at hn
      have ef : pxFit s r (e :: l ++ pyTl ae) o c x = pxDesc (fun y => pxFit s r (l ++ pyTl ae) o c y) (r.length - x + 1).toNat r.length := by
        rw [List.cons_append]
        show (if e.1 = 3 then _ else _) = _
        rw [if_pos e3]
      rw [ef, ← pyStar (G := fun y => pxFit s r (l ++ pyTl ae) o c y) x1 hT]
      refine pyDesc_cg _ _ (fun w a b => ?_)
      have ed : pyDet s r (sel w).1 (sel w).2 (e :: l) o c x t = if x + (if t = 0 then (sel w).1 else (sel w).2) ≤ r.length then pyDet s r (sel w).1 (sel w).2 l o c (x + (if t = 0 then (sel w).1 else (sel w).2)) (t + 1) else none := by
        show (if e.1 = 5 then _ else _) = _
        rw [if_neg (by omega), if_neg (by omega), if_pos e3]
      rw [ed, hs w]
      by_cases d : x + w ≤ r.length
      · rw [if_pos d, if_pos d]
        exact pyFit_0 l o c (x + w) (t + 1) h7' (by omega)
      · rw [if_neg d, if_neg d]; rfl
    · unfold pyStn at hn
      rw [if_neg e3] at hn
      rw [List.cons_append] at W ⊢
      rw [pyStep_fit e7 e3]
      cases z : pyStep s r e o c x with
      | none =>
        refine (pyDesc_none _ _ (fun w _ _ => ?_)).symm
        rw [pyStep_det e3, z]; rfl
      | some v =>
        obtain ⟨g', q', W', I', xa, xb⟩ := pyStep_gp e7 e3 W I x1 z
        have ih := pyFit_1 (s := s) hs l v.1 v.2.1 v.2.2 g' q' tt T h7' (by omega) W' I' xb (by omega)
        show pxFit s r (l ++ pyTl ae) v.1 v.2.1 v.2.2 = _
        rw [ih]
        refine pyDesc_cg _ _ (fun w _ _ => ?_)
        rw [pyStep_det e3, z]; rfl
theorem pyFit_2 {s r : List Int} {ae : Bool} : ∀ (l : List (Int × Int)) (o c : Int → Int) (x g q tt T : Int), (∀ y ∈ l, pyE7 y) → pyStn l = 2 → pxWE g q tt (l ++ pyTl ae) → pyGp g q x o c → x ≤ r.length → r.length - x ≤ T →
    pxFit s r (l ++ pyTl ae) o c x = pxDesc (fun one => pxDesc (fun other => (pyDet s r one other l o c x 0).bind (pyFin r ae)) (T - one + 1).toNat (T - one)) (T + 1).toNat T
  | [], _, _, _, _, _, _, _, _, h, _, _, _, _ => by unfold pyStn at h; omega
  | e :: l, o, c, x, g, q, tt, T, h7, hn, W, I, x1, hT => by
    have e7 := h7 e (by simp)
    have h7' : ∀ y ∈ l, pyE7 y := fun y hy => h7 y (by simp [hy])
    by_cases e3 : e.1 = 3
    · unfold pyStn at hn
      rw [if_pos e3] at hn
      have W2 := W
      rw [List.cons_append] at W2
      obtain ⟨w5, w6, w7, w3, W2⟩ := W2.resolve_left (show e.1 ≠ 10 by omega)
      rw [if_neg (by omega), if_neg (by omega), if_pos e3] at W2
      have ef : pxFit s r (e :: l ++ pyTl ae) o c x = pxDesc (fun y => pxFit s r (l ++ pyTl ae) o c y) (r.length - x + 1).toNat r.length := by
        rw [List.cons_append]
        show (if e.1 = 3 then _ else _) = _
        rw [if_pos e3]
      rw [ef, ← pyStar (G := fun y => pxFit s r (l ++ pyTl ae) o c y) x1 hT]
      refine pyDesc_cg _ _ (fun w a b => ?_)
      have ed : ∀ other : Int, pyDet s r w other (e :: l) o c x 0 = if x + w ≤ r.length then pyDet s r w other l o c (x + w) (0 + 1) else none := by
        intro other
        show (if e.1 = 5 then _ else _) = _
        rw [if_neg (by omega), if_neg (by omega), if_pos e3, if_pos rfl]
      by_cases d : x + w ≤ r.length
      · rw [if_pos d]
        by_cases w0 : 0 ≤ w
        · rw [pyFit_1 (t := 0 + 1) (sel := fun y => (w, y)) (fun y => if_neg (by decide)) l o c (x + w) g q (tt + 1) (T - w) h7' (by omega) W2 ⟨fun k k1 k2 => by have := I.1 k k1 k2; omega, I.2⟩ d (by omega)]
          refine pyDesc_cg _ _ (fun y _ _ => ?_)
          rw [ed y, if_pos d]
        · omega
      · rw [if_neg d]
        refine (pyDesc_none _ _ (fun y _ _ => ?_)).symm
        rw [ed y, if_neg d]; rfl
    · unfold pyStn at hn
      rw [if_neg e3] at hn
      rw [List.cons_append] at W ⊢
      rw [pyStep_fit e7 e3]
      cases z : pyStep s r e o c x with
      | none =>
        refine (pyDesc_none _ _ (fun w _ _ => pyDesc_none _ _ (fun y _ _ => ?_))).symm
        rw [pyStep_det e3, z]; rfl
      | some v =>
        obtain ⟨g', q', W', I', xa, xb⟩ := pyStep_gp e7 e3 W I x1 z
        have ih := pyFit_2 (s := s) l v.1 v.2.1 v.2.2 g' q' tt T h7' (by omega) W' I' xb (by omega)
        show pxFit s r (l ++ pyTl ae) v.1 v.2.1 v.2.2 = _
        rw [ih]
        refine pyDesc_cg _ _ (fun w _ _ => pyDesc_cg _ _ (fun y _ _ => ?_))
        rw [pyStep_det e3, z]; rfl
/-- all stars tried -/
def pyAll (s r : List Int) (ae : Bool) (l : List (Int × Int)) (x : Int) : Option (Int × (Int → Int) × (Int → Int)) :=
  pxDesc (fun one => pxDesc (fun other => (pyDet s r one other l px0 px0 x 0).bind (pyFin r ae)) ((if 1 < pyStn l then r.length - x - one else 0) + 1).toNat (if 1 < pyStn l then r.length - x - one else 0)) ((if 0 < pyStn l then r.length - x else 0) + 1).toNat (if 0 < pyStn l then r.length - x else 0)
theorem pyAll_e {s r : List Int} {ae : Bool} {l : List (Int × Int)} {x : Int} (h7 : ∀ y ∈ l, pyE7 y) (hn : pyStn l ≤ 2) (W : pxWE 0 0 0 (l ++ pyTl ae)) (x1 : x ≤ r.length) : pyAll s r ae l x = pxFit s r (l ++ pyTl ae) px0 px0 x := by
  have n0 := (pyStn_0 l).1
  have I : pyGp 0 0 x px0 px0 := ⟨fun k k1 k2 => by omega, fun k k1 k2 => by omega⟩
  unfold pyAll
  by_cases a : pyStn l = 0
  · rw [if_neg (by omega)]
    simp only [if_neg (show ¬ 1 < pyStn l by omega)]
    rw [pyFit_0 (one := 0) (other := 0) l px0 px0 x 0 h7 a]
    show ((Option.elim ((pyDet s r 0 0 l px0 px0 x 0).bind (pyFin r ae)) none some).elim none some) = _
    cases (pyDet s r 0 0 l px0 px0 x 0).bind (pyFin r ae) <;> rfl
  by_cases b : pyStn l = 1
  · rw [if_pos (by omega)]
    simp only [if_neg (show ¬ 1 < pyStn l by omega)]
    rw [pyFit_1 (t := 0) (sel := fun y => (y, 0)) (fun y => if_pos rfl) l px0 px0 x 0 0 0 (r.length - x) h7 b W I x1 (Int.le_refl _)]
    refine pyDesc_cg _ _ (fun w _ _ => ?_)
    show (Option.elim ((pyDet s r w 0 l px0 px0 x 0).bind (pyFin r ae)) none some) = _
    cases (pyDet s r w 0 l px0 px0 x 0).bind (pyFin r ae) <;> rfl
  · rw [if_pos (by omega)]
    simp only [if_pos (show 1 < pyStn l by omega)]
    exact (pyFit_2 l px0 px0 x 0 0 0 (r.length - x) h7 (by omega) W I x1 (Int.le_refl _)).symm
