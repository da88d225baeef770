/-! runs as lists of what was ahead of each deed, and their undoing -/
theorem qz_stepj {s : List Int} {L : List (Int × List Int)} {j : Nat} {t : Int × List Int} {came : Int} {T : pxTx} {S : pxSto} {rep : Bool} (hd : ¬ (pxAc s t.1 = 58 ∨ pxAc s t.1 = 98 ∨ pxAc s t.1 = 84 ∨ pxAc s t.1 = 113)) (e : (pxStep s L j t came T S rep).1 = 0) : (pxStep s L j t came T S rep).2.1 = j + 1 := by
  unfold pxStep at e ⊢
  by_cases a : 60 ≤ came
  · rw [if_pos a] at e
    have e : (7 : Int) = 0 := e
    omega
  rw [if_neg a] at e ⊢
  by_cases b : pxSteer (pxAc s t.1) = true
  · rw [if_pos b] at e ⊢
    by_cases c : (pxWh s t.1).2.2.1 ≠ 0 ∧ (pxRng s t.1 T).1 ≠ 0
    · rw [if_pos c] at e
      exact absurd e c.2
    · rw [if_neg c]
      have h78 : pxAc s t.1 = 78 := by
        unfold pxSteer at b
        have := of_decide_eq_true b
        omega
      show (pxStr s L j t.1 (pxRng s t.1 T).2.1 (pxRng s t.1 T).2.2 T rep).2.1 = j + 1
      unfold pxStr
      by_cases d : (pxWh s t.1).2.2.1 ≠ 0 ∧ (T.2.2.1 < (pxRng s t.1 T).2.1 ∨ (pxRng s t.1 T).2.2 < T.2.2.1)
      · simp only [if_pos d]
      · by_cases g : T.2.2.1 < (T.1.length : Int)
        · simp only [if_neg d, if_pos h78, if_pos g]
        · simp only [if_neg d, if_pos h78, if_neg g]
  · rw [if_neg b] at e ⊢
    by_cases c : (pxRng s t.1 T).1 ≠ 0
    · rw [if_pos c] at e
      exact absurd e c
    · by_cases d : pxAc s t.1 = 103 ∨ pxAc s t.1 = 71 ∨ pxAc s t.1 = 123
      · simp only [if_neg c, if_pos d]
      · simp only [if_neg c, if_neg d]
def qzPu (call : Int) (D : List (Int × pxSn)) (x : pxSn) : List (Int × pxSn) := pxPush D (call, x)
theorem qz_snaps {s : List Int} {L : List (Int × List Int)} {call : Int} (hL : ∀ t ∈ L, ¬ (pxAc s t.1 = 58 ∨ pxAc s t.1 = 98 ∨ pxAc s t.1 = 84 ∨ pxAc s t.1 = 113)) : ∀ (m j : Nat) (done came : Int) (T : pxTx) (S : pxSto) (rep : Bool) (D : List (Int × pxSn)), j ≤ L.length →
    ∃ K : List pxSn, (pxRunL s L call m j done came T S rep D).2.2.2.2 = K.foldl (qzPu call) D ∧ (pxRunL s L call m j done came T S rep D).1 = done + K.length ∧ K.length + j ≤ L.length ∧ ((pxRunL s L call m j done came T S rep D).2.1 ≠ 0 → K.length + j < L.length) ∧ (K = [] → (pxRunL s L call m j done came T S rep D).2.2.1 = T ∧ (pxRunL s L call m j done came T S rep D).2.2.2.1 = S) ∧ (∀ x, K.head? = some x → x = pxSnap T) := by
  intro m
  induction m with
  | zero =>
    intro j done came T S rep D hj
    exact ⟨[], rfl, by show done = done + ((0 : Nat) : Int); omega, by show 0 + j ≤ L.length; omega, fun z => absurd rfl z, fun _ => ⟨rfl, rfl⟩, fun x hx => by cases hx⟩
  | succ m ih =>
    intro j done came T S rep D hj
    have eU : pxRunL s L call (m + 1) j done came T S rep D = (L[j]?).elim (done, 0, T, S, D) (fun t => if (pxStep s L j t came T S rep).1 ≠ 0 then (done, (pxStep s L j t came T S rep).1, T, S, D) else pxRunL s L call m (pxStep s L j t came T S rep).2.1 (done + 1) (pxStep s L j t came T S rep).2.2.1 (pxStep s L j t came T S rep).2.2.2.1 (pxStep s L j t came T S rep).2.2.2.2.1 (pxStep s L j t came T S rep).2.2.2.2.2 (pxDeed (pxAc s t.1) call T D)) := rfl
    rw [eU]
    cases hj2 : L[j]? with
    | none => exact ⟨[], rfl, by show done = done + ((0 : Nat) : Int); omega, by show 0 + j ≤ L.length; omega, fun z => absurd rfl z, fun _ => ⟨rfl, rfl⟩, fun x hx => by cases hx⟩
    | some t =>
      have jl : j < L.length := (List.getElem?_eq_some_iff.mp hj2).1
      have tm : t ∈ L := List.mem_of_getElem? hj2
      rw [Option.elim_some]
      by_cases c : (pxStep s L j t came T S rep).1 ≠ 0
      · rw [if_pos c]
        exact ⟨[], rfl, by show done = done + ((0 : Nat) : Int); omega, by show 0 + j ≤ L.length; omega, fun _ => by show 0 + j < L.length; omega, fun _ => ⟨rfl, rfl⟩, fun x hx => by cases hx⟩
      · have c0 : (pxStep s L j t came T S rep).1 = 0 := Decidable.not_not.mp c
        have ej := qz_stepj (hL t tm) c0
        have eD : pxDeed (pxAc s t.1) call T D = qzPu call D (pxSnap T) := if_neg (hL t tm)
        rw [if_neg c, eD, ej]
        obtain ⟨K, k1, k2, k3, k4, k5, k6⟩ := ih (j + 1) (done + 1) (pxStep s L j t came T S rep).2.2.1 (pxStep s L j t came T S rep).2.2.2.1 (pxStep s L j t came T S rep).2.2.2.2.1 (pxStep s L j t came T S rep).2.2.2.2.2 (qzPu call D (pxSnap T)) (by omega)
        refine ⟨pxSnap T :: K, k1, ?_, ?_, ?_, fun z => (by cases z), fun x hx => ?_⟩
        · rw [k2, List.length_cons]; omega
        · rw [List.length_cons]; omega
        · intro z
          have := k4 z
          rw [List.length_cons]; omega
        · exact (Option.some.inj hx).symm
theorem qz_pushes {call : Int} : ∀ (K : List pxSn) (D0 P : List (Int × pxSn)), (D0 ++ P).length ≤ 40 → P.length + K.length ≤ 40 → ∃ D1, (∀ d ∈ D1, d ∈ D0) ∧ D1.length + P.length + K.length ≤ 40 ∧ K.foldl (qzPu call) (D0 ++ P) = D1 ++ (P ++ K.map (fun x => (call, x)))
  | [], D0, P, l, _ => ⟨D0, fun _ h => h, by rw [List.length_append] at l; show D0.length + P.length + 0 ≤ 40; omega, by rw [List.map_nil, List.append_nil]; rfl⟩
  | x :: K, D0, P, l, l2 => by
    rw [List.length_append] at l
    rw [List.length_cons] at l2
    have e : (x :: K).foldl (qzPu call) (D0 ++ P) = K.foldl (qzPu call) (pxPush (D0 ++ P) (call, x)) := rfl
    rw [e]
    unfold pxPush
    by_cases c : (D0 ++ P).length < 40
    · rw [if_pos c, List.append_assoc]
      rw [List.length_append] at c
      obtain ⟨D1, h1, h2, h3⟩ := qz_pushes K D0 (P ++ [(call, x)]) (by rw [List.length_append, List.length_append, List.length_singleton]; omega) (by rw [List.length_append, List.length_singleton]; omega)
      refine ⟨D1, h1, ?_, ?_⟩
      · rw [List.length_append, List.length_singleton] at h2
        rw [List.length_cons]; omega
      · rw [h3, List.map_cons, List.append_assoc]
        rfl
    · rw [if_neg c]
      rw [List.length_append] at c
      cases D0 with
      | nil =>
        rw [List.length_nil] at l c
        omega
      | cons d D0 =>
        rw [List.length_cons] at l c
        have et : ((d :: D0) ++ P).tail ++ [(call, x)] = D0 ++ (P ++ [(call, x)]) := by
          show (D0 ++ P) ++ [(call, x)] = _
          rw [List.append_assoc]
        rw [et]
        obtain ⟨D1, h1, h2, h3⟩ := qz_pushes K D0 (P ++ [(call, x)]) (by rw [List.length_append, List.length_append, List.length_singleton]; omega) (by rw [List.length_append, List.length_singleton]; omega)
        refine ⟨D1, fun y hy => List.mem_cons_of_mem _ (h1 y hy), ?_, ?_⟩
        · rw [List.length_append, List.length_singleton] at h2
          rw [List.length_cons]; omega
        · rw [h3, List.map_cons, List.append_assoc]
          rfl
/-- the state in which all was as it is told by x -/
def qzBk (α : pzA) (D1 : List (Int × pxSn)) (o : Option pxSn) : pzA := o.elim α (fun x => (α.1, α.2.1, (x.1, x.2.1, x.2.2, α.2.2.1.2.2.2), α.2.2.2.1, D1, α.2.2.2.2.2))
theorem qz_ur {call : Int} {D1 : List (Int × pxSn)} (hD : ∀ d ∈ D1, d.1 ≠ call) : ∀ (n m : Nat) (K : List pxSn) (u : Int) (α : pzA), K.length = n → n ≤ m → α.2.2.2.2.1 = D1 ++ K.map (fun x => (call, x)) → pzUr call m u α = (u + n, qzBk α D1 K.head?) := by
  intro n
  induction n with
  | zero =>
    intro m K u α hK hm e
    have hK : K = [] := List.length_eq_zero_iff.mp hK
    subst hK
    rw [List.map_nil, List.append_nil] at e
    have e0 : u + ((0 : Nat) : Int) = u := by omega
    rw [e0]
    cases m with
    | zero => rfl
    | succ m =>
      have eU : pzUr call (m + 1) u α = (α.2.2.2.2.1.getLast?).elim (u, α) (fun x => if x.1 = call then pzUr call m (u + 1) (pzUn α) else (u, α)) := rfl
      rw [eU, e]
      cases hl : D1.getLast? with
      | none => rfl
      | some x => exact if_neg (hD x (List.mem_of_getLast? hl))
  | succ n ih =>
    intro m K u α hK hm e
    obtain ⟨m, rfl⟩ : ∃ m', m = m' + 1 := ⟨m - 1, by omega⟩
    have ne : K ≠ [] := fun z => by rw [z] at hK; cases hK
    obtain ⟨K', x, rfl⟩ : ∃ K' x, K = K' ++ [x] := ⟨K.dropLast, K.getLast ne, (List.dropLast_concat_getLast ne).symm⟩
    rw [List.length_append, List.length_singleton] at hK
    have eD : α.2.2.2.2.1 = (D1 ++ K'.map (fun x => (call, x))) ++ [(call, x)] := by
      rw [e, List.map_append, List.append_assoc]; rfl
    have eU : pzUr call (m + 1) u α = (α.2.2.2.2.1.getLast?).elim (u, α) (fun x => if x.1 = call then pzUr call m (u + 1) (pzUn α) else (u, α)) := rfl
    rw [eU, eD, List.getLast?_concat]
    show (if call = call then pzUr call m (u + 1) (pzUn α) else (u, α)) = _
    rw [if_pos rfl]
    have eN := pzUn_app eD
    rw [ih m K' (u + 1) (pzUn α) (by omega) (by omega) (by rw [eN])]
    have e1 : u + 1 + (n : Int) = u + ((n + 1 : Nat) : Int) := by omega
    rw [e1]
    cases K' with
    | nil =>
      rw [eN, List.map_nil, List.append_nil]
      rfl
    | cons y K' =>
      rw [eN]
      rfl
/-- an order alone -/
def qzS (s : List Int) (p : Int) (ps : List Int) (T : pxTx) (S : pxSto) : Int × pxTx × pxSto :=
  if (pxRng s p T).1 ≠ 0 then ((pxRng s p T).1, T, S)
  else if pxAc s p = 103 ∨ pxAc s p = 71 ∨ pxAc s p = 123 then ((pxGp s p ps (pxRng s p T).2.1 (pxRng s p T).2.2 1 T S false).1, (pxGp s p ps (pxRng s p T).2.1 (pxRng s p T).2.2 1 T S false).2.2.1, (pxGp s p ps (pxRng s p T).2.1 (pxRng s p T).2.2 1 T S false).2.2.2.1)
  else (pxDo s (pxWh s p).2.1 (pxRng s p T).2.1 (pxRng s p T).2.2 T S false).1
theorem qz_one {s : List Int} {p : Int} {ps : List Int} {call : Int} {T : pxTx} {S : pxSto} {D : List (Int × pxSn)} (hs : ¬ pxSteer (pxAc s p) = true) :
    ((pxRunL s [(p, ps)] call 61 0 0 0 T S false D).1 = if (qzS s p ps T S).1 = 0 then 1 else 0) ∧ ((qzS s p ps T S).1 = 0 → (pxRunL s [(p, ps)] call 61 0 0 0 T S false D).2.2.1 = (qzS s p ps T S).2.1 ∧ (pxRunL s [(p, ps)] call 61 0 0 0 T S false D).2.2.2.1 = (qzS s p ps T S).2.2) ∧ ((qzS s p ps T S).1 ≠ 0 → (pxRunL s [(p, ps)] call 61 0 0 0 T S false D).2.2.1 = T ∧ (pxRunL s [(p, ps)] call 61 0 0 0 T S false D).2.2.2.1 = S) := by
  have hd : ¬ (pxAc s p = 58 ∨ pxAc s p = 98 ∨ pxAc s p = 84 ∨ pxAc s p = 113) := fun z => hs (decide_eq_true (by omega))
  have e1 : (pxStep s [(p, ps)] 0 (p, ps) 0 T S false).1 = (qzS s p ps T S).1 ∧ (pxStep s [(p, ps)] 0 (p, ps) 0 T S false).2.2.2.1 = (qzS s p ps T S).2.1 ∧ (pxStep s [(p, ps)] 0 (p, ps) 0 T S false).2.2.2.2.1 = (qzS s p ps T S).2.2 := by
    unfold pxStep qzS
    rw [if_neg (show ¬ ((60 : Int) ≤ 0) by decide), if_neg hs]
    by_cases c : (pxRng s p T).1 ≠ 0
    · rw [if_pos c, if_pos c]
      exact ⟨rfl, rfl, rfl⟩
    · rw [if_neg c, if_neg c]
      by_cases d : pxAc s p = 103 ∨ pxAc s p = 71 ∨ pxAc s p = 123
      · rw [if_pos d, if_pos d]
        exact ⟨rfl, rfl, rfl⟩
      · rw [if_neg d, if_neg d]
        exact ⟨rfl, rfl, rfl⟩
  have eU : pxRunL s [(p, ps)] call 61 0 0 0 T S false D = if (pxStep s [(p, ps)] 0 (p, ps) 0 T S false).1 ≠ 0 then (0, (pxStep s [(p, ps)] 0 (p, ps) 0 T S false).1, T, S, D) else pxRunL s [(p, ps)] call 60 (pxStep s [(p, ps)] 0 (p, ps) 0 T S false).2.1 (0 + 1) (pxStep s [(p, ps)] 0 (p, ps) 0 T S false).2.2.1 (pxStep s [(p, ps)] 0 (p, ps) 0 T S false).2.2.2.1 (pxStep s [(p, ps)] 0 (p, ps) 0 T S false).2.2.2.2.1 (pxStep s [(p, ps)] 0 (p, ps) 0 T S false).2.2.2.2.2 (pxDeed (pxAc s p) call T D) := rfl
  rw [eU]
  by_cases c : (qzS s p ps T S).1 = 0
  · have c0 := e1.1.trans c
    rw [if_neg (fun z => z c0), qz_stepj (t := (p, ps)) hd c0, if_pos c]
    exact ⟨rfl, fun _ => ⟨e1.2.1, e1.2.2⟩, fun z => absurd c z⟩
  · rw [if_pos (fun z => c (e1.1.symm.trans z)), if_neg c]
    exact ⟨rfl, fun z => absurd z c, fun _ => ⟨rfl, rfl⟩⟩
