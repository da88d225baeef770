/-! worlds: a heap of numbered cells (a number's cell lies at an address), beside the machine's -/
abbrev jw_H : Type := Nat × Nat × Nat × (Nat → Nat × Nat) × (Nat → Nat → Int32) × (Nat → Nat → Int64) × (Nat → Nat → Option Nat)
abbrev jw_n (h : jw_H) : Nat := h.1
abbrev jw_c (h : jw_H) : Nat := h.2.1
abbrev jw_s (h : jw_H) : Nat := h.2.2.1
abbrev jw_t (h : jw_H) : Nat → Nat × Nat := h.2.2.2.1
abbrev jw_i (h : jw_H) : Nat → Nat → Int32 := h.2.2.2.2.1
abbrev jw_l (h : jw_H) : Nat → Nat → Int64 := h.2.2.2.2.2.1
abbrev jw_r (h : jw_H) : Nat → Nat → Option Nat := h.2.2.2.2.2.2
def jw_cn (c : Nat) : String := match c with
  | 0 => RX0 | 1 => RX1 | 2 => RX2 | 3 => RX3 | 4 => RX4 | 5 => RX5 | 6 => RX6 | 7 => RX7 | 8 => RX8 | 9 => RX9 | 10 => RX10 | 11 => RX11 | _ => RX12
def jw_TX (c : Nat) : u_T := match c with
  | 0 => TX0 | 1 => TX1 | 2 => TX2 | 3 => TX3 | 4 => TX4 | 5 => TX5 | 6 => TX6 | 7 => TX7 | 8 => TX8 | 9 => TX9 | 10 => TX10 | 11 => TX11 | _ => TX12
def jw_fty (c f : Nat) : FieldType := match c with
  | 0 => tyX0 f | 1 => tyX1 f | 2 => tyX2 f | 3 => tyX3 f | 4 => tyX4 f | 5 => tyX5 f | 6 => tyX6 f | 7 => tyX7 f | 8 => tyX8 f | 9 => tyX9 f | 10 => tyX10 f | 11 => tyX11 f | _ => tyX12 f
def jw_nf (c : Nat) : Nat := match c with
  | 0 => 4 | 1 => 20 | 2 => 6 | 3 => 5 | 4 => 8 | 5 => 14 | 6 => 10 | 7 => 3 | 8 => 4 | 9 => 5 | 10 => 17 | 11 => 15 | _ => 0
theorem jw_cl {c : Nat} (h : c < 12) : vwCl[c]? = some (jw_cn c, jw_TX c, jw_nf c) := by
  match c, h with
  | 0, _ => rfl
  | 1, _ => rfl
  | 2, _ => rfl
  | 3, _ => rfl
  | 4, _ => rfl
  | 5, _ => rfl
  | 6, _ => rfl
  | 7, _ => rfl
  | 8, _ => rfl
  | 9, _ => rfl
  | 10, _ => rfl
  | 11, _ => rfl
def jw_isR (ty : FieldType) : Bool := match ty with | .object _ => true | .array _ => true | _ => false
def jw_aty (t : Nat) : FieldType := match t with | 20 => .int | 21 => .byte | 22 => .boolean | 23 => .long | 24 => .array .byte | t => .object (jw_cn (t - 30))
def jw_fv (σ : Nat → Nat) (h : jw_H) (k c f : Nat) : Value := bif jw_isR (jw_fty c f) then va_rf ((jw_r h k f).map σ) else .int (jw_i h k f)
def jw_ac (σ : Nat → Nat) (h : jw_H) (k : Nat) : (Nat → Int32) ⊕ (Nat → Int64) ⊕ (Nat → UInt32) ⊕ (Nat → UInt64) ⊕ (Nat → Option Nat) :=
  if (jw_t h k).1 = 23 then .inr (.inl (jw_l h k)) else if 24 ≤ (jw_t h k).1 then .inr (.inr (.inr (.inr (fun j => (jw_r h k j).map σ)))) else .inl (jw_i h k)
def jw_cell (κ : Nat → ClassId) (σ : Nat → Nat) (h : jw_H) (k : Nat) : va_E :=
  if (jw_t h k).1 < 20 then .inr ((jw_t h k).1, (List.range (jw_nf (jw_t h k).1)).map (jw_fv σ h k (jw_t h k).1)) else .inl (κ k, (jw_t h k).2, jw_ac σ h k)
def jw_ws (κ : Nat → ClassId) (σ : Nat → Nat) (h : jw_H) : va_W := (List.range (jw_n h)).map (fun k => (σ k, jw_cell κ σ h k))
theorem jw_ws_get {κ : Nat → ClassId} {σ : Nat → Nat} {h : jw_H} {k : Nat} (hk : k < jw_n h) : (jw_ws κ σ h)[k]? = some (σ k, jw_cell κ σ h k) := by
  simp [jw_ws, List.getElem?_range, hk]
theorem jw_ws_inv {κ : Nat → ClassId} {σ : Nat → Nat} {h : jw_H} {k : Nat} {q : Nat × va_E} (hk : (jw_ws κ σ h)[k]? = some q) : k < jw_n h ∧ q = (σ k, jw_cell κ σ h k) := by
  have h1 : k < jw_n h := by
    have := (List.getElem?_eq_some_iff.mp hk).1
    simpa [jw_ws] using this
  rw [jw_ws_get h1] at hk
  exact ⟨h1, (Option.some.inj hk).symm⟩
theorem jw_ws_set {κ : Nat → ClassId} {σ : Nat → Nat} {h h' : jw_H} {k : Nat} {e : va_E} (hk : k < jw_n h) (hn : jw_n h' = jw_n h) (he : jw_cell κ σ h' k = e) (ho : ∀ j, j < jw_n h → j ≠ k → jw_cell κ σ h' j = jw_cell κ σ h j) :
    (jw_ws κ σ h).set k (σ k, e) = jw_ws κ σ h' := by
  apply List.ext_getElem?
  intro j
  by_cases hj : j < jw_n h
  · rw [jw_ws_get (h := h') (by omega)]
    by_cases hjk : j = k
    · subst hjk
      rw [List.getElem?_set_self (by simpa [jw_ws] using hj), he]
    · rw [List.getElem?_set_ne (Ne.symm hjk), jw_ws_get hj, ho j hj hjk]
  · have e1 : ((jw_ws κ σ h).set k (σ k, e)).length ≤ j := by simp [jw_ws]; omega
    have e2 : (jw_ws κ σ h').length ≤ j := by simp [jw_ws]; omega
    rw [List.getElem?_eq_none e1, List.getElem?_eq_none e2]
theorem jw_ws_push {κ κ' : Nat → ClassId} {σ σ' : Nat → Nat} {h h' : jw_H} {a : Nat} {e : va_E} (hn : jw_n h' = jw_n h + 1) (ha : σ' (jw_n h) = a) (he : jw_cell κ' σ' h' (jw_n h) = e) (ho : ∀ j, j < jw_n h → σ' j = σ j ∧ jw_cell κ' σ' h' j = jw_cell κ σ h j) :
    jw_ws κ σ h ++ [(a, e)] = jw_ws κ' σ' h' := by
  apply List.ext_getElem?
  intro j
  have hlen : (jw_ws κ σ h).length = jw_n h := by simp [jw_ws]
  by_cases hj : j < jw_n h
  · rw [jw_ws_get (h := h') (by omega), List.getElem?_append_left (by omega), jw_ws_get hj, (ho j hj).1, (ho j hj).2]
  · by_cases hj2 : j = jw_n h
    · subst hj2
      rw [jw_ws_get (h := h') (by omega), List.getElem?_append_right (by omega), hlen, Nat.sub_self, ha, he]
      rfl
    · have e1 : (jw_ws κ σ h ++ [(a, e)]).length ≤ j := by simp [jw_ws]; omega
      have e2 : (jw_ws κ' σ' h').length ≤ j := by simp [jw_ws]; omega
      rw [List.getElem?_eq_none e1, List.getElem?_eq_none e2]
/-- the words that every contract carries -/
def jw_T : List Cond := lw_tbl.filter goodWord
theorem jw_Tin {w : Cond} (h : w ∈ lw_tbl) (g : goodWord w = true) : w ∈ jw_T := List.mem_filter.mpr ⟨h, g⟩
theorem jw_good {ws : List Cond} (h : ∀ w ∈ ws, w ∈ jw_T) : GoodIn jw_T ws := fun w hw => ⟨h w hw, good_of_word (List.mem_filter.mp (h w hw)).2⟩
def jw_nest : Cond → Bool
  | .fieldLinkNest .. => true
  | .methodLinkNest .. => true
  | .castable .. => true
  | .declares .. => true
  | _ => false
theorem jw_nest_go {w : Cond} {s U : State} (hn : jw_nest w = true) (hW : s.WarmedH U.vm) (h : va_Nw w s) : va_Nw w U := by
  cases w <;> first | exact va_Nw.warmF hW h | exact va_Nw.warmM hW h | exact va_Nw.warmC hW h | exact va_Nw.warmD hW h | (simp [jw_nest] at hn)
theorem jw_nest_on {w : Cond} (hn : jw_nest w = true) : w.onTables = true := by
  cases w <;> first | rfl | (simp [jw_nest] at hn)
def jw_Nb : List Cond := tables_1.filter jw_nest
/-- what is caught by another row -/
def jw_Nc : List (String × String) := []
/-- the strings of the throws -/
def jw_Sb : List (Nat × String) := [(198, "seed or many is out of range"), (200, "too many lines"), (172, "no such line"), (181, "no such line or place"), (192, "no such mark"), (90, "no such sign"), (101, "the tape is full"), (111, "the tape has a fault"), (152, "no deed is kept"), (132, "no such script"), (135, "no script was kept there")]
/-- what stays the whole run: the script, the nest's words, what a throw needs -/
def jw_Z (b Ls : Nat) (xs : Nat → Int32) (A : Nat → Prop) (U : State) : Prop :=
  va_X b Ls xs U U.heap ∧ b < U.heap.size ∧ ¬ A b ∧ (∀ w ∈ jw_Nb, va_Nw w U) ∧
  vx_Zq Bundle.tN "UNASSIGNED_STACK" Bundle.steD A U U.heap ∧ vx_Zq Bundle.tN "SUPPRESSED_SENTINEL" Bundle.listD A U U.heap ∧
  (∀ q ∈ jw_Sb, ∃ a, vk_R RX11 q.1 q.2 a U) ∧ va_AO RX5 U ∧ va_AO RX7 U ∧ va_AO RX9 U ∧ va_AOA .byte U ∧ (∀ q ∈ jw_Nc, va_Nc q.1 q.2 U)
theorem jw_Z.go {b Ls : Nat} {xs : Nat → Int32} {A A' : Nat → Prop} {s U : State} (h : jw_Z b Ls xs A s) (hW : s.WarmedH U.vm) (hz : s.heap.size ≤ U.heap.size) (hq : ∀ q, q < s.heap.size → ¬ A q → U.heap[q]? = s.heap[q]?) (hA : ∀ q, A' q → A q) : jw_Z b Ls xs A' U := by
  obtain ⟨h1, h2, h3, h4, h5, h6, h7, h8, h9, h10, h11, h12⟩ := h
  refine ⟨(h1.moved hW.alike).kept (hq b h2 h3), Nat.lt_of_lt_of_le h2 hz, fun q => h3 (hA b q), fun w hw => jw_nest_go (List.mem_filter.mp hw).2 hW (h4 w hw), ?_, ?_, fun q hq => ?_, h8.moved hW.alike, h9.moved hW.alike, h10.moved hW.alike, h11.moved hW.alike, fun q hq => (h12 q hq).moved hW.alike⟩
  · exact ((h5.moved hW.alike).kept hq).narrow hA
  · exact ((h6.moved hW.alike).kept hq).narrow hA
  · obtain ⟨a, ha⟩ := h7 q hq
    exact ⟨a, ha.warm hW⟩
def jw_R (D : va_G) (κ : Nat → ClassId) (tys : List (ClassId × FieldType)) (σ : Nat → Nat) (h : jw_H) (A : Nat → Prop) (s : State) (Hm : Heap) : Prop :=
  va_K D vwCl tys s ∧ va_P D vwCl (jw_ws κ σ h) Hm ∧ va_D A (jw_ws κ σ h) ∧
  (∀ k, k < jw_n h → 20 ≤ (jw_t h k).1 → (κ k, jw_aty (jw_t h k).1) ∈ tys) ∧
  (∀ k, k < jw_n h → (jw_t h k).1 < 20 → (jw_t h k).1 < 12) ∧
  (∀ k j, k < jw_n h → (jw_t h k).1 = 21 → fits .byte (.int (jw_i h k j)) = true) ∧
  (∀ k j i, k < jw_n h → jw_r h k j = some i → i < jw_n h)
def jw_v (σ : Nat → Nat) (b : Nat) (v : Value) : Value := match v with | .ref k => .ref (σ k) | .retAddr _ => .ref b | v => v
theorem jw_v_rf (σ : Nat → Nat) (b : Nat) (o : Option Nat) : jw_v σ b (va_rf o) = va_rf (o.map σ) := by cases o <;> rfl
theorem jw_v_cat (σ : Nat → Nat) (b : Nat) (v : Value) : (jw_v σ b v).category = v.category := by cases v <;> rfl
def jw_ok (n : Nat) (v : Value) : Prop := ∀ k, v = .ref k → k < n
def jw_okS (n : Nat) (S : List Value) : Prop := ∀ v ∈ S, jw_ok n v
theorem jw_ok_int {n : Nat} {x : Int32} : jw_ok n (.int x) := fun _ h => by cases h
theorem jw_ok_long {n : Nat} {x : Int64} : jw_ok n (.long x) := fun _ h => by cases h
theorem jw_ok_null {n : Nat} : jw_ok n .null := fun _ h => by cases h
theorem jw_ok_rf {n : Nat} {o : Option Nat} (h : ∀ k, o = some k → k < n) : jw_ok n (va_rf o) := by
  cases o with
  | none => exact jw_ok_null
  | some a => intro k hk; cases hk; exact h a rfl
theorem jw_rf_ok {n : Nat} {o : Option Nat} (h : jw_ok n (va_rf o)) {k : Nat} (e : o = some k) : k < n := by subst e; exact h k rfl
theorem jw_okS.tl {n : Nat} {v : Value} {S : List Value} (h : jw_okS n (v :: S)) : jw_okS n S := fun w hw => h w (List.mem_cons_of_mem _ hw)
theorem jw_okS.hd {n : Nat} {v : Value} {S : List Value} (h : jw_okS n (v :: S)) : jw_ok n v := h v List.mem_cons_self
theorem jw_okS.cons {n : Nat} {v : Value} {S : List Value} (h1 : jw_ok n v) (h : jw_okS n S) : jw_okS n (v :: S) := fun w hw => (List.mem_cons.mp hw).elim (fun e => e ▸ h1) (h w)
theorem jw_okS.up {n n' : Nat} {S : List Value} (h : jw_okS n S) (hn : n ≤ n') : jw_okS n' S := fun v hv k hk => Nat.lt_of_lt_of_le (h v hv k hk) hn
theorem jw_v_same {σ σ' : Nat → Nat} {b n : Nat} (hs : ∀ k, k < n → σ' k = σ k) {v : Value} (h : jw_ok n v) : jw_v σ' b v = jw_v σ b v := by
  cases v with
  | ref k => show Value.ref (σ' k) = Value.ref (σ k); rw [hs k (h k rfl)]
  | _ => rfl
theorem jw_vS_same {σ σ' : Nat → Nat} {b n : Nat} (hs : ∀ k, k < n → σ' k = σ k) {S : List Value} (h : jw_okS n S) : S.map (jw_v σ' b) = S.map (jw_v σ b) :=
  List.map_congr_left fun v hv => jw_v_same hs (h v hv)
/-- the locals: what is known of each -/
def jw_Lo (σ : Nat → Nat) (b n : Nat) (L : List (Option Value)) (ls : Array Slot) (mL : Nat) : Prop :=
  ls.size = mL ∧ lv_wf ls ∧ L.length = mL ∧ ∀ (i : Nat) (v : Value), L[i]? = some (some v) → ls[i]? = some (Slot.val (jw_v σ b v)) ∧ jw_ok n v
theorem jw_Lo.up {σ σ' : Nat → Nat} {b n n' : Nat} {L : List (Option Value)} {ls : Array Slot} {mL : Nat} (h : jw_Lo σ b n L ls mL) (hs : ∀ k, k < n → σ' k = σ k) (hn : n ≤ n') : jw_Lo σ' b n' L ls mL := by
  obtain ⟨h1, h2, h3, h4⟩ := h
  refine ⟨h1, h2, h3, fun i v hv => ?_⟩
  obtain ⟨g1, g2⟩ := h4 i v hv
  exact ⟨by rw [g1, jw_v_same hs g2], fun k hk => Nat.lt_of_lt_of_le (g2 k hk) hn⟩
def jw_long (o : Option (Option Value)) : Bool := match o with | some (some (.long _)) => true | some (some (.double _)) => true | _ => false
def jw_clr (L : List (Option Value)) (i : Nat) : List (Option Value) := match i with | 0 => L | j + 1 => bif jw_long L[j]? then L.set j none else L
def jw_st1 (L : List (Option Value)) (i : Nat) (v : Value) : List (Option Value) := (jw_clr L i).set i (some v)
def jw_st2 (L : List (Option Value)) (i : Nat) (v : Value) : List (Option Value) := ((jw_clr L i).set (i + 1) none).set i (some v)
/-- the listed locals of L -/
def jw_lst (σ : Nat → Nat) (b : Nat) (L : List (Option Value)) : List (Nat × Value) := (List.range L.length).filterMap (fun i => (L[i]?.getD none).map (fun v => (i, jw_v σ b v)))
theorem jw_lst_mem {σ : Nat → Nat} {b : Nat} {L : List (Option Value)} {q : Nat × Value} : q ∈ jw_lst σ b L ↔ ∃ v, L[q.1]? = some (some v) ∧ q.2 = jw_v σ b v := by
  unfold jw_lst
  rw [List.mem_filterMap]
  constructor
  · rintro ⟨i, hi, he⟩
    cases hL : L[i]? with
    | none => rw [hL] at he; simp at he
    | some o =>
      rw [hL] at he
      cases o with
      | none => simp at he
      | some v =>
        simp at he
        subst he
        exact ⟨v, hL, rfl⟩
  · rintro ⟨v, h1, h2⟩
    refine ⟨q.1, ?_, ?_⟩
    · rw [List.mem_range]; exact (List.getElem?_eq_some_iff.mp h1).1
    · rw [h1]; simp [← h2]
theorem jw_Lo.has {σ : Nat → Nat} {b n : Nat} {L : List (Option Value)} {ls : Array Slot} {mL : Nat} (h : jw_Lo σ b n L ls mL) : lv_has ls mL (jw_lst σ b L) := by
  refine ⟨h.1, h.2.1, fun q hq => ?_⟩
  obtain ⟨v, h1, h2⟩ := jw_lst_mem.mp hq
  rw [(h.2.2.2 q.1 v h1).1, h2]
theorem jw_clr_len (L : List (Option Value)) (i : Nat) : (jw_clr L i).length = L.length := by
  cases i with
  | zero => rfl
  | succ j => simp only [jw_clr]; cases jw_long L[j]? <;> simp
theorem jw_clr_get {L : List (Option Value)} {i j : Nat} {v : Value} (h : (jw_clr L i)[j]? = some (some v)) : L[j]? = some (some v) ∧ ¬ (j + 1 = i ∧ v.category = 2) := by
  cases i with
  | zero => exact ⟨h, fun q => by omega⟩
  | succ k =>
    simp only [jw_clr] at h
    cases hl : jw_long L[k]? with
    | true =>
      rw [hl] at h
      simp only [cond_true] at h
      by_cases hjk : j = k
      · subst hjk
        have hlt : j < L.length := by have := (List.getElem?_eq_some_iff.mp h).1; simpa using this
        rw [List.getElem?_set_self hlt] at h
        cases h
      · rw [List.getElem?_set_ne (Ne.symm hjk)] at h
        exact ⟨h, fun q => hjk (by omega)⟩
    | false =>
      rw [hl] at h
      simp only [cond_false] at h
      refine ⟨h, fun q => ?_⟩
      have hjk : j = k := by omega
      subst hjk
      rw [h] at hl
      cases v <;> simp_all [jw_long, Value.category]
theorem jw_Lo.st1 {σ : Nat → Nat} {b n : Nat} {L : List (Option Value)} {ls' : Array Slot} {mL i : Nat} {v : Value} (hlen : L.length = mL) (hi : i < mL) (hok : ∀ (j : Nat) (w : Value), L[j]? = some (some w) → jw_ok n w) (hv : jw_ok n v)
    (h : lv_has ls' mL ((i, jw_v σ b v) :: (jw_lst σ b L).filter (fun q => !(q.1 == i) && !(q.1 + 1 == i && q.2.category == 2)))) : jw_Lo σ b n (jw_st1 L i v) ls' mL := by
  refine ⟨h.1, h.2.1, by simp [jw_st1, jw_clr_len, hlen], fun j w hj => ?_⟩
  by_cases hji : j = i
  · subst hji
    rw [jw_st1, List.getElem?_set_self (by rw [jw_clr_len, hlen]; exact hi)] at hj
    cases hj
    exact ⟨h.2.2 _ List.mem_cons_self, hv⟩
  · rw [jw_st1, List.getElem?_set_ne (Ne.symm hji)] at hj
    obtain ⟨g1, g2⟩ := jw_clr_get hj
    refine ⟨?_, hok j w g1⟩
    refine h.2.2 (j, jw_v σ b w) (List.mem_cons_of_mem _ (List.mem_filter.mpr ⟨jw_lst_mem.mpr ⟨w, g1, rfl⟩, ?_⟩))
    simp only [jw_v_cat, Bool.and_eq_true, Bool.not_eq_true', beq_eq_false_iff_ne, ne_eq, Bool.and_eq_false_iff]
    refine ⟨hji, ?_⟩
    by_cases hx : j + 1 = i
    · exact Or.inr fun q => g2 ⟨hx, q⟩
    · exact Or.inl hx
theorem jw_Lo.stN {σ : Nat → Nat} {b n : Nat} {L : List (Option Value)} {ls' : Array Slot} {mL i : Nat} {z : Value} (hz : z.category = 1) (hlen : L.length = mL) (hi : i < mL) (hok : ∀ (j : Nat) (w : Value), L[j]? = some (some w) → jw_ok n w)
    (h : lv_has ls' mL ((i, z) :: (jw_lst σ b L).filter (fun q => !(q.1 == i) && !(q.1 + 1 == i && q.2.category == 2)))) : jw_Lo σ b n ((jw_clr L i).set i none) ls' mL := by
  refine ⟨h.1, h.2.1, by simp [jw_clr_len, hlen], fun j w hj => ?_⟩
  by_cases hji : j = i
  · subst hji
    rw [List.getElem?_set_self (by rw [jw_clr_len, hlen]; exact hi)] at hj
    cases hj
  · rw [List.getElem?_set_ne (Ne.symm hji)] at hj
    obtain ⟨g1, g2⟩ := jw_clr_get hj
    refine ⟨?_, hok j w g1⟩
    refine h.2.2 (j, jw_v σ b w) (List.mem_cons_of_mem _ (List.mem_filter.mpr ⟨jw_lst_mem.mpr ⟨w, g1, rfl⟩, ?_⟩))
    simp only [jw_v_cat, Bool.and_eq_true, Bool.not_eq_true', beq_eq_false_iff_ne, ne_eq, Bool.and_eq_false_iff]
    refine ⟨hji, ?_⟩
    by_cases hx : j + 1 = i
    · exact Or.inr fun q => g2 ⟨hx, q⟩
    · exact Or.inl hx
theorem jw_Lo.st2 {σ : Nat → Nat} {b n : Nat} {L : List (Option Value)} {ls' : Array Slot} {mL i : Nat} {v : Value} (hlen : L.length = mL) (hi : i + 1 < mL) (hok : ∀ (j : Nat) (w : Value), L[j]? = some (some w) → jw_ok n w) (hv : jw_ok n v)
    (h : lv_has ls' mL ((i, jw_v σ b v) :: (jw_lst σ b L).filter (fun q => !(q.1 == i) && (!(q.1 == i + 1) && !(q.1 + 1 == i && q.2.category == 2))))) : jw_Lo σ b n (jw_st2 L i v) ls' mL := by
  refine ⟨h.1, h.2.1, by simp [jw_st2, jw_clr_len, hlen], fun j w hj => ?_⟩
  by_cases hji : j = i
  · subst hji
    rw [jw_st2, List.getElem?_set_self (by rw [List.length_set, jw_clr_len, hlen]; omega)] at hj
    cases hj
    exact ⟨h.2.2 _ List.mem_cons_self, hv⟩
  · rw [jw_st2, List.getElem?_set_ne (Ne.symm hji)] at hj
    by_cases hji2 : j = i + 1
    · subst hji2
      rw [List.getElem?_set_self (by rw [jw_clr_len, hlen]; omega)] at hj
      cases hj
    · rw [List.getElem?_set_ne (Ne.symm hji2)] at hj
      obtain ⟨g1, g2⟩ := jw_clr_get hj
      refine ⟨?_, hok j w g1⟩
      refine h.2.2 (j, jw_v σ b w) (List.mem_cons_of_mem _ (List.mem_filter.mpr ⟨jw_lst_mem.mpr ⟨w, g1, rfl⟩, ?_⟩))
      simp only [jw_v_cat, Bool.and_eq_true, Bool.not_eq_true', beq_eq_false_iff_ne, ne_eq, Bool.and_eq_false_iff]
      refine ⟨hji, hji2, ?_⟩
      by_cases hx : j + 1 = i
      · exact Or.inr fun q => g2 ⟨hx, q⟩
      · exact Or.inl hx
abbrev jw_U : Type := String × ByteArray × Nat × Bool × Option FieldType × Option (List (Nat × Nat × Nat × Nat)) × Option (Nat × (Nat → Int32))
/-- a walk's state beside the machine's -/
def jw_M (D : va_G) (A : Nat → Prop) (b mL : Nat) (σ0 : Nat → Nat) (hi : jw_H) (s : State) (κ : Nat → ClassId) (tys : List (ClassId × FieldType)) (σ : Nat → Nat) (L : List (Option Value)) (h : jw_H) (Hm : Heap) (locs : List Loc) (cells slots : Nat) (ls : Array Slot) : Prop :=
  jw_R D κ tys σ h A s Hm ∧ va_S A s.heap Hm locs ∧ (jw_n hi ≤ jw_n h ∧ ∀ k, k < jw_n hi → σ k = σ0 k) ∧ (cells + jw_c hi = jw_c h ∧ slots + jw_s hi = jw_s h) ∧ jw_Lo σ b (jw_n h) L ls mL
/-- what holds of the machine all along a method's walk -/
def jw_C (p : Program) (l : Launch) (e : Env) (R : Room) (s : State) (m : MethodId) (args : Array Value) (meth : Method) (c : Code) (d : Nat) (u : jw_U) (hi hf : jw_H) (b Ls : Nat) (xs : Nat → Int32) (A : Nat → Prop) : Prop :=
  p.tables.exec = Jvm.exec ∧ c.code = u.2.1 ∧ c.maxLocals = u.2.2.1 ∧ s.vm.findClass u.1 = some m.cls ∧ (∀ w ∈ jw_T, w.before args s = true) ∧ l.flags = flags0 ∧ jw_Z b Ls xs A s ∧
  d ≤ R.frames ∧ d * 300 ≤ R.locals ∧ jw_c hf ≤ R.cells + jw_c hi ∧ jw_s hf ≤ R.slots + jw_s hi ∧ (∀ q, s.heap.size ≤ q → A q) ∧ (u.2.2.2.1 = true → meth.name = "<init>") ∧ (∀ q, u.2.2.2.2.2.1 = some q → c.exceptionTable.toList = tableOf q) ∧ (∀ q, u.2.2.2.2.2.2 = some q → Ls = q.1 ∧ xs = q.2)
def jw_ri (i : Instr) (r : Option Value ⊕ String) (S : List Value) : Prop :=
  (i = .ireturn ∧ ∃ x, r = .inl (some (.int x)) ∧ S = [.int x]) ∨ (i = .lreturn ∧ ∃ x, r = .inl (some (.long x)) ∧ S = [.long x]) ∨ (i = .areturn ∧ ∃ o, r = .inl (some (va_rf o)) ∧ S = [va_rf o]) ∨ (i = .return_ ∧ r = .inl none ∧ S = [])
/-- what a method's descriptor says of its answer -/
def jw_rt (ret : Option FieldType) (r : Option Value ⊕ String) : Prop :=
  (∃ x ty, ret = some ty ∧ r = .inl (some (.int x)) ∧ narrow ty (.int x) = .int x) ∨ (∃ x, ret = some .long ∧ r = .inl (some (.long x))) ∨ (∃ o ty, ret = some ty ∧ jw_isR ty = true ∧ r = .inl (some (va_rf o))) ∨ (ret = none ∧ r = .inl none) ∨ ∃ E, r = .inr E
/-- a class that is thrown: by which numbers the pool of Lineorders has it -/
def jw_tE (E : String) (ik ic : Nat) : Prop :=
  Bundle.fit E = true ∧ (∀ n ∈ ["java/lang/RuntimeException", "java/lang/Exception"], Bundle.fit n = true) ∧ Cond.classLink RX11 ik E ∈ jw_T ∧ Cond.initialized E ∈ jw_T ∧
  (∀ w ∈ (vx_atS RX11 ic E ["java/lang/RuntimeException", "java/lang/Exception"]).filter goodWord, w ∈ jw_T) ∧ (∀ w ∈ (vx_atS RX11 ic E ["java/lang/RuntimeException", "java/lang/Exception"]).filter (fun w => !goodWord w), w ∈ jw_Nb) ∧
  (∀ w ∈ Cond.classLink RX11 ik E :: Cond.initialized E :: vx_atS RX11 ic E ["java/lang/RuntimeException", "java/lang/Exception"], vx_ot w = true)
/-- a throw that stands at pc: its class and its decoded rows -/
def jw_th (u : jw_U) (pc : Nat) (E : String) : Prop := (u.1 = RX11 ∧ u.2.2.2.2.2.1 = some []) ∧ ∃ (ik is ic : Nat) (text : String), jw_tE E ik ic ∧ (is, text) ∈ jw_Sb ∧ decode u.2.1 pc = .ok (.new ik, 3) ∧ decode u.2.1 (pc + 3) = .ok (.dup, 1) ∧ decode u.2.1 (pc + 4) = .ok (.ldc is, 2) ∧ decode u.2.1 (pc + 6) = .ok (.invokespecial ic, 3) ∧ decode u.2.1 (pc + 9) = .ok (.athrow, 1)
def jw_xs (Ls : Nat) (xs : Nat → Int32) (x : Int32) : Option Int32 := if x < 0 ∨ Ls ≤ x.toNatClampNeg then none else some (xs x.toNatClampNeg)
def jw_thw (h : jw_H) : jw_H := (jw_n h, jw_c h + 1, jw_s h + 6, jw_t h, jw_i h, jw_l h, jw_r h)
/-- from pc on, with locals L and stack S over h, the method comes to its end with r over hf -/
def jw_E (d : Nat) (u : jw_U) (hi : jw_H) (pc : Nat) (L : List (Option Value)) (S : List Value) (h : jw_H) (r : Option Value ⊕ String) (hf : jw_H) : Prop :=
  jw_n h ≤ jw_n hf ∧ jw_c h ≤ jw_c hf ∧ jw_s h ≤ jw_s hf ∧
  ∀ (p : Program) (l : Launch) (e : Env) (R : Room) (s : State) (m : MethodId) (args : Array Value) (below : List Frame) (meth : Method) (c : Code) (b Ls : Nat) (xs : Nat → Int32) (D : va_G) (A : Nat → Prop) (Q : State → Prop) (σ0 : Nat → Nat),
    jw_C p l e R s m args meth c d u hi hf b Ls xs A →
    (∀ (κ : Nat → ClassId) (tys : List (ClassId × FieldType)) (σ : Nat → Nat) (Hm : Heap) (locs : List Loc) (cells slots : Nat) (ls : Array Slot) (pc' : Nat) (i : Instr) (L' : List (Option Value)) (S' : List Value),
      jw_M D A b u.2.2.1 σ0 hi s κ tys σ L' hf Hm locs cells slots ls → jw_okS (jw_n hf) S' → decode u.2.1 pc' = .ok (i, 1) → jw_ri i r S' → jw_rt u.2.2.2.2.1 r →
      W p l e R s m args below meth c Hm locs cells slots Q (F0 m pc' ls (S'.map (jw_v σ b)))) →
    (∀ (κ : Nat → ClassId) (tys : List (ClassId × FieldType)) (σ : Nat → Nat) (Hm : Heap) (locs : List Loc) (cells slots : Nat) (ls : Array Slot) (pc' : Nat) (L' : List (Option Value)) (S' : List Value) (h' : jw_H) (E : String),
      jw_M D A b u.2.2.1 σ0 hi s κ tys σ L' h' Hm locs cells slots ls → hf = jw_thw h' → r = .inr E → jw_th u pc' E → 8 ≤ d → (S'.map fun v => v.category).sum ≤ 8 →
      W p l e R s m args below meth c Hm locs cells slots Q (F0 m pc' ls (S'.map (jw_v σ b)))) →
    ∀ (κ : Nat → ClassId) (tys : List (ClassId × FieldType)) (σ : Nat → Nat) (Hm : Heap) (locs : List Loc) (cells slots : Nat) (ls : Array Slot),
      jw_M D A b u.2.2.1 σ0 hi s κ tys σ L h Hm locs cells slots ls → jw_okS (jw_n h) S →
      W p l e R s m args below meth c Hm locs cells slots Q (F0 m pc ls (S.map (jw_v σ b)))

section JW
variable {d : Nat} {u : jw_U} {hi : jw_H} {pc : Nat} {L : List (Option Value)} {S : List Value} {h : jw_H} {r : Option Value ⊕ String} {hf : jw_H}

theorem jw_iconst {n : Int} {v : Int32} (hd : decode u.2.1 pc = .ok (.iconst n, 1)) (hv : Int32.ofInt n = v) (k : jw_E d u hi (pc + 1) L (.int v :: S) h r hf) : jw_E d u hi pc L S h r hf := by
  refine ⟨k.1, k.2.1, k.2.2.1, ?_⟩
  intro p l e R s m args below meth c b Ls xs D A Q σ0 hC hT hX κ tys σ Hm locs cells slots ls M hs
  exact lv_iconst hC.1 hC.2.1 hd hv (k.2.2.2 p l e R s m args below meth c b Ls xs D A Q σ0 hC hT hX κ tys σ Hm locs cells slots ls M (jw_okS.cons jw_ok_int hs))

theorem jw_bipush {n : Int} {v : Int32} (hd : decode u.2.1 pc = .ok (.bipush n, 2)) (hv : (Int8.ofInt n).toInt32 = v) (k : jw_E d u hi (pc + 2) L (.int v :: S) h r hf) : jw_E d u hi pc L S h r hf := by
  refine ⟨k.1, k.2.1, k.2.2.1, ?_⟩
  intro p l e R s m args below meth c b Ls xs D A Q σ0 hC hT hX κ tys σ Hm locs cells slots ls M hs
  exact lv_bipush hC.1 hC.2.1 hd hv (k.2.2.2 p l e R s m args below meth c b Ls xs D A Q σ0 hC hT hX κ tys σ Hm locs cells slots ls M (jw_okS.cons jw_ok_int hs))

theorem jw_sipush {n : Int} {v : Int32} (hd : decode u.2.1 pc = .ok (.sipush n, 3)) (hv : (Int16.ofInt n).toInt32 = v) (k : jw_E d u hi (pc + 3) L (.int v :: S) h r hf) : jw_E d u hi pc L S h r hf := by
  refine ⟨k.1, k.2.1, k.2.2.1, ?_⟩
  intro p l e R s m args below meth c b Ls xs D A Q σ0 hC hT hX κ tys σ Hm locs cells slots ls M hs
  exact lv_sipush hC.1 hC.2.1 hd hv (k.2.2.2 p l e R s m args below meth c b Ls xs D A Q σ0 hC hT hX κ tys σ Hm locs cells slots ls M (jw_okS.cons jw_ok_int hs))

theorem jw_lconst {n : Fin 2} {v : Int64} (hd : decode u.2.1 pc = .ok (.lconst n, 1)) (hv : Int64.ofNat (n : Nat) = v) (k : jw_E d u hi (pc + 1) L (.long v :: S) h r hf) : jw_E d u hi pc L S h r hf := by
  refine ⟨k.1, k.2.1, k.2.2.1, ?_⟩
  intro p l e R s m args below meth c b Ls xs D A Q σ0 hC hT hX κ tys σ Hm locs cells slots ls M hs
  exact lv_lconst hC.1 hC.2.1 hd hv (k.2.2.2 p l e R s m args below meth c b Ls xs D A Q σ0 hC hT hX κ tys σ Hm locs cells slots ls M (jw_okS.cons jw_ok_long hs))

theorem jw_ldc {idx : Nat} {v : Int32} (hd : decode u.2.1 pc = .ok (.ldc idx, 2)) (hw : Cond.constant u.1 idx v ∈ jw_T) (k : jw_E d u hi (pc + 2) L (.int v :: S) h r hf) : jw_E d u hi pc L S h r hf := by
  refine ⟨k.1, k.2.1, k.2.2.1, ?_⟩
  intro p l e R s m args below meth c b Ls xs D A Q σ0 hC hT hX κ tys σ Hm locs cells slots ls M hs
  exact lv_ldc hC.1 hC.2.1 hC.2.2.2.1 (hC.2.2.2.2.1 _ hw) hd (k.2.2.2 p l e R s m args below meth c b Ls xs D A Q σ0 hC hT hX κ tys σ Hm locs cells slots ls M (jw_okS.cons jw_ok_int hs))

theorem jw_ldcw {idx : Nat} {v : Int32} (hd : decode u.2.1 pc = .ok (.ldc_w idx, 3)) (hw : Cond.constant u.1 idx v ∈ jw_T) (k : jw_E d u hi (pc + 3) L (.int v :: S) h r hf) : jw_E d u hi pc L S h r hf := by
  refine ⟨k.1, k.2.1, k.2.2.1, ?_⟩
  intro p l e R s m args below meth c b Ls xs D A Q σ0 hC hT hX κ tys σ Hm locs cells slots ls M hs
  exact lv_ldcw hC.1 hC.2.1 hC.2.2.2.1 (hC.2.2.2.2.1 _ hw) hd (k.2.2.2 p l e R s m args below meth c b Ls xs D A Q σ0 hC hT hX κ tys σ Hm locs cells slots ls M (jw_okS.cons jw_ok_int hs))

theorem jw_ldc2 {idx : Nat} {v : Int64} (hd : decode u.2.1 pc = .ok (.ldc2_w idx, 3)) (hw : Cond.constantLong u.1 idx v ∈ jw_T) (k : jw_E d u hi (pc + 3) L (.long v :: S) h r hf) : jw_E d u hi pc L S h r hf := by
  refine ⟨k.1, k.2.1, k.2.2.1, ?_⟩
  intro p l e R s m args below meth c b Ls xs D A Q σ0 hC hT hX κ tys σ Hm locs cells slots ls M hs
  exact lv_ldc2 hC.1 hC.2.1 hC.2.2.2.1 (hC.2.2.2.2.1 _ hw) hd (k.2.2.2 p l e R s m args below meth c b Ls xs D A Q σ0 hC hT hX κ tys σ Hm locs cells slots ls M (jw_okS.cons jw_ok_long hs))

theorem jw_null  (hd : decode u.2.1 pc = .ok (.aconst_null, 1)) (k : jw_E d u hi (pc + 1) L (.null :: S) h r hf) : jw_E d u hi pc L S h r hf := by
  refine ⟨k.1, k.2.1, k.2.2.1, ?_⟩
  intro p l e R s m args below meth c b Ls xs D A Q σ0 hC hT hX κ tys σ Hm locs cells slots ls M hs
  exact lv_null hC.1 hC.2.1 hd (k.2.2.2 p l e R s m args below meth c b Ls xs D A Q σ0 hC hT hX κ tys σ Hm locs cells slots ls M (jw_okS.cons jw_ok_null hs))

theorem jw_iload_n {n : Fin 4} {x : Int32} (hd : decode u.2.1 pc = .ok (.iload_n n, 1)) (hl : L[(n : Nat)]? = some (some (.int x))) (k : jw_E d u hi (pc + 1) L (.int x :: S) h r hf) : jw_E d u hi pc L S h r hf := by
  refine ⟨k.1, k.2.1, k.2.2.1, ?_⟩
  intro p l e R s m args below meth c b Ls xs D A Q σ0 hC hT hX κ tys σ Hm locs cells slots ls M hs
  exact lv_iload_n hC.1 hC.2.1 hd rfl (M.2.2.2.2.2.2.2 _ _ hl).1 (k.2.2.2 p l e R s m args below meth c b Ls xs D A Q σ0 hC hT hX κ tys σ Hm locs cells slots ls M (jw_okS.cons jw_ok_int hs))
theorem jw_iload {n : Nat} {x : Int32} (hd : decode u.2.1 pc = .ok (.iload n, 2)) (hl : L[n]? = some (some (.int x))) (k : jw_E d u hi (pc + 2) L (.int x :: S) h r hf) : jw_E d u hi pc L S h r hf := by
  refine ⟨k.1, k.2.1, k.2.2.1, ?_⟩
  intro p l e R s m args below meth c b Ls xs D A Q σ0 hC hT hX κ tys σ Hm locs cells slots ls M hs
  exact lv_iload hC.1 hC.2.1 hd (M.2.2.2.2.2.2.2 _ _ hl).1 (k.2.2.2 p l e R s m args below meth c b Ls xs D A Q σ0 hC hT hX κ tys σ Hm locs cells slots ls M (jw_okS.cons jw_ok_int hs))

theorem jw_lload_n {n : Fin 4} {x : Int64} (hd : decode u.2.1 pc = .ok (.lload_n n, 1)) (hl : L[(n : Nat)]? = some (some (.long x))) (k : jw_E d u hi (pc + 1) L (.long x :: S) h r hf) : jw_E d u hi pc L S h r hf := by
  refine ⟨k.1, k.2.1, k.2.2.1, ?_⟩
  intro p l e R s m args below meth c b Ls xs D A Q σ0 hC hT hX κ tys σ Hm locs cells slots ls M hs
  exact lv_lload_n hC.1 hC.2.1 hd rfl (M.2.2.2.2.2.2.2 _ _ hl).1 (k.2.2.2 p l e R s m args below meth c b Ls xs D A Q σ0 hC hT hX κ tys σ Hm locs cells slots ls M (jw_okS.cons jw_ok_long hs))
theorem jw_lload {n : Nat} {x : Int64} (hd : decode u.2.1 pc = .ok (.lload n, 2)) (hl : L[n]? = some (some (.long x))) (k : jw_E d u hi (pc + 2) L (.long x :: S) h r hf) : jw_E d u hi pc L S h r hf := by
  refine ⟨k.1, k.2.1, k.2.2.1, ?_⟩
  intro p l e R s m args below meth c b Ls xs D A Q σ0 hC hT hX κ tys σ Hm locs cells slots ls M hs
  exact lv_lload hC.1 hC.2.1 hd (M.2.2.2.2.2.2.2 _ _ hl).1 (k.2.2.2 p l e R s m args below meth c b Ls xs D A Q σ0 hC hT hX κ tys σ Hm locs cells slots ls M (jw_okS.cons jw_ok_long hs))

theorem jw_aload_n {n : Fin 4} {o : Option Nat} (hd : decode u.2.1 pc = .ok (.aload_n n, 1)) (hl : L[(n : Nat)]? = some (some (va_rf o))) (k : jw_E d u hi (pc + 1) L (va_rf o :: S) h r hf) : jw_E d u hi pc L S h r hf := by
  refine ⟨k.1, k.2.1, k.2.2.1, ?_⟩
  intro p l e R s m args below meth c b Ls xs D A Q σ0 hC hT hX κ tys σ Hm locs cells slots ls M hs
  have h1 := M.2.2.2.2.2.2.2 _ _ hl
  have kk := k.2.2.2 p l e R s m args below meth c b Ls xs D A Q σ0 hC hT hX κ tys σ Hm locs cells slots ls M (jw_okS.cons h1.2 hs)
  cases o with
  | none => exact lv_aload_nN hC.1 hC.2.1 hd rfl h1.1 kk
  | some a => exact lv_aload_n hC.1 hC.2.1 hd rfl h1.1 kk
theorem jw_aload {n : Nat} {o : Option Nat} (hd : decode u.2.1 pc = .ok (.aload n, 2)) (hl : L[n]? = some (some (va_rf o))) (k : jw_E d u hi (pc + 2) L (va_rf o :: S) h r hf) : jw_E d u hi pc L S h r hf := by
  refine ⟨k.1, k.2.1, k.2.2.1, ?_⟩
  intro p l e R s m args below meth c b Ls xs D A Q σ0 hC hT hX κ tys σ Hm locs cells slots ls M hs
  have h1 := M.2.2.2.2.2.2.2 _ _ hl
  have kk := k.2.2.2 p l e R s m args below meth c b Ls xs D A Q σ0 hC hT hX κ tys σ Hm locs cells slots ls M (jw_okS.cons h1.2 hs)
  cases o with
  | none => exact lv_aloadN hC.1 hC.2.1 hd h1.1 kk
  | some a => exact lv_aload hC.1 hC.2.1 hd h1.1 kk
theorem jw_aload_nS {n : Fin 4} (hd : decode u.2.1 pc = .ok (.aload_n n, 1)) (hl : L[(n : Nat)]? = some (some (.retAddr 0))) (k : jw_E d u hi (pc + 1) L (.retAddr 0 :: S) h r hf) : jw_E d u hi pc L S h r hf := by
  refine ⟨k.1, k.2.1, k.2.2.1, ?_⟩
  intro p l e R s m args below meth c b Ls xs D A Q σ0 hC hT hX κ tys σ Hm locs cells slots ls M hs
  have h1 := M.2.2.2.2.2.2.2 _ _ hl
  have kk := k.2.2.2 p l e R s m args below meth c b Ls xs D A Q σ0 hC hT hX κ tys σ Hm locs cells slots ls M (jw_okS.cons h1.2 hs)
  exact lv_aload_n hC.1 hC.2.1 hd rfl h1.1 kk

theorem jw_istore_n {n : Fin 4} {x : Int32} {L' : List (Option Value)} (hd : decode u.2.1 pc = .ok (.istore_n n, 1)) (hn : (n : Nat) < u.2.2.1) (hL : jw_st1 L (n : Nat) (.int x) = L') (k : jw_E d u hi (pc + 1) L' S h r hf) : jw_E d u hi pc L (.int x :: S) h r hf := by
  refine ⟨k.1, k.2.1, k.2.2.1, ?_⟩
  intro p l e R s m args below meth c b Ls xs D A Q σ0 hC hT hX κ tys σ Hm locs cells slots ls M hs
  obtain ⟨M1, M2, M3, M4, M5⟩ := M
  subst hL
  refine lv_istore_n hC.1 hC.2.1 hd rfl M5.has hn rfl fun ls' hl' => ?_
  exact k.2.2.2 p l e R s m args below meth c b Ls xs D A Q σ0 hC hT hX κ tys σ Hm locs cells slots ls' ⟨M1, M2, M3, M4, jw_Lo.st1 M5.2.2.1 hn (fun j w hw => (M5.2.2.2 j w hw).2) jw_ok_int hl'⟩ hs.tl
theorem jw_istore {n : Nat} {x : Int32} {L' : List (Option Value)} (hd : decode u.2.1 pc = .ok (.istore n, 2)) (hn : n < u.2.2.1) (hL : jw_st1 L n (.int x) = L') (k : jw_E d u hi (pc + 2) L' S h r hf) : jw_E d u hi pc L (.int x :: S) h r hf := by
  refine ⟨k.1, k.2.1, k.2.2.1, ?_⟩
  intro p l e R s m args below meth c b Ls xs D A Q σ0 hC hT hX κ tys σ Hm locs cells slots ls M hs
  obtain ⟨M1, M2, M3, M4, M5⟩ := M
  subst hL
  refine lv_istore hC.1 hC.2.1 hd M5.has hn rfl fun ls' hl' => ?_
  exact k.2.2.2 p l e R s m args below meth c b Ls xs D A Q σ0 hC hT hX κ tys σ Hm locs cells slots ls' ⟨M1, M2, M3, M4, jw_Lo.st1 M5.2.2.1 hn (fun j w hw => (M5.2.2.2 j w hw).2) jw_ok_int hl'⟩ hs.tl

theorem jw_lstore_n {n : Fin 4} {x : Int64} {L' : List (Option Value)} (hd : decode u.2.1 pc = .ok (.lstore_n n, 1)) (hn : (n : Nat) + 1 < u.2.2.1) (hL : jw_st2 L (n : Nat) (.long x) = L') (k : jw_E d u hi (pc + 1) L' S h r hf) : jw_E d u hi pc L (.long x :: S) h r hf := by
  refine ⟨k.1, k.2.1, k.2.2.1, ?_⟩
  intro p l e R s m args below meth c b Ls xs D A Q σ0 hC hT hX κ tys σ Hm locs cells slots ls M hs
  obtain ⟨M1, M2, M3, M4, M5⟩ := M
  subst hL
  refine lv_lstore_n hC.1 hC.2.1 hd rfl M5.has hn rfl fun ls' hl' => ?_
  exact k.2.2.2 p l e R s m args below meth c b Ls xs D A Q σ0 hC hT hX κ tys σ Hm locs cells slots ls' ⟨M1, M2, M3, M4, jw_Lo.st2 M5.2.2.1 hn (fun j w hw => (M5.2.2.2 j w hw).2) jw_ok_long hl'⟩ hs.tl
theorem jw_lstore {n : Nat} {x : Int64} {L' : List (Option Value)} (hd : decode u.2.1 pc = .ok (.lstore n, 2)) (hn : n + 1 < u.2.2.1) (hL : jw_st2 L n (.long x) = L') (k : jw_E d u hi (pc + 2) L' S h r hf) : jw_E d u hi pc L (.long x :: S) h r hf := by
  refine ⟨k.1, k.2.1, k.2.2.1, ?_⟩
  intro p l e R s m args below meth c b Ls xs D A Q σ0 hC hT hX κ tys σ Hm locs cells slots ls M hs
  obtain ⟨M1, M2, M3, M4, M5⟩ := M
  subst hL
  refine lv_lstore hC.1 hC.2.1 hd M5.has hn rfl fun ls' hl' => ?_
  exact k.2.2.2 p l e R s m args below meth c b Ls xs D A Q σ0 hC hT hX κ tys σ Hm locs cells slots ls' ⟨M1, M2, M3, M4, jw_Lo.st2 M5.2.2.1 hn (fun j w hw => (M5.2.2.2 j w hw).2) jw_ok_long hl'⟩ hs.tl

theorem jw_astore_n {n : Fin 4} {o : Option Nat} {L' : List (Option Value)} (hd : decode u.2.1 pc = .ok (.astore_n n, 1)) (hn : (n : Nat) < u.2.2.1) (hL : jw_st1 L (n : Nat) (va_rf o) = L') (k : jw_E d u hi (pc + 1) L' S h r hf) : jw_E d u hi pc L (va_rf o :: S) h r hf := by
  refine ⟨k.1, k.2.1, k.2.2.1, ?_⟩
  intro p l e R s m args below meth c b Ls xs D A Q σ0 hC hT hX κ tys σ Hm locs cells slots ls M hs
  obtain ⟨M1, M2, M3, M4, M5⟩ := M
  subst hL
  cases o with
  | none =>
    refine lv_astore_nN hC.1 hC.2.1 hd rfl M5.has hn rfl fun ls' hl' => ?_
    exact k.2.2.2 p l e R s m args below meth c b Ls xs D A Q σ0 hC hT hX κ tys σ Hm locs cells slots ls' ⟨M1, M2, M3, M4, jw_Lo.st1 (v := .null) M5.2.2.1 hn (fun j w hw => (M5.2.2.2 j w hw).2) jw_ok_null hl'⟩ hs.tl
  | some a =>
    refine lv_astore_n hC.1 hC.2.1 hd rfl M5.has hn rfl fun ls' hl' => ?_
    exact k.2.2.2 p l e R s m args below meth c b Ls xs D A Q σ0 hC hT hX κ tys σ Hm locs cells slots ls' ⟨M1, M2, M3, M4, jw_Lo.st1 (v := .ref a) M5.2.2.1 hn (fun j w hw => (M5.2.2.2 j w hw).2) hs.hd hl'⟩ hs.tl

theorem jw_astore {n : Nat} {o : Option Nat} {L' : List (Option Value)} (hd : decode u.2.1 pc = .ok (.astore n, 2)) (hn : n < u.2.2.1) (hL : jw_st1 L n (va_rf o) = L') (k : jw_E d u hi (pc + 2) L' S h r hf) : jw_E d u hi pc L (va_rf o :: S) h r hf := by
  refine ⟨k.1, k.2.1, k.2.2.1, ?_⟩
  intro p l e R s m args below meth c b Ls xs D A Q σ0 hC hT hX κ tys σ Hm locs cells slots ls M hs
  obtain ⟨M1, M2, M3, M4, M5⟩ := M
  subst hL
  cases o with
  | none =>
    refine lv_astoreN hC.1 hC.2.1 hd M5.has hn rfl fun ls' hl' => ?_
    exact k.2.2.2 p l e R s m args below meth c b Ls xs D A Q σ0 hC hT hX κ tys σ Hm locs cells slots ls' ⟨M1, M2, M3, M4, jw_Lo.st1 (v := .null) M5.2.2.1 hn (fun j w hw => (M5.2.2.2 j w hw).2) jw_ok_null hl'⟩ hs.tl
  | some a =>
    refine lv_astore hC.1 hC.2.1 hd M5.has hn rfl fun ls' hl' => ?_
    exact k.2.2.2 p l e R s m args below meth c b Ls xs D A Q σ0 hC hT hX κ tys σ Hm locs cells slots ls' ⟨M1, M2, M3, M4, jw_Lo.st1 (v := .ref a) M5.2.2.1 hn (fun j w hw => (M5.2.2.2 j w hw).2) hs.hd hl'⟩ hs.tl

theorem jw_iinc {i : Nat} {n : Int} {x v : Int32} {L' : List (Option Value)} (hd : decode u.2.1 pc = .ok (.iinc i n, 3)) (hl : L[i]? = some (some (.int x))) (hv : Int32.ofInt n = v) (hn : i < u.2.2.1) (hL : jw_st1 L i (.int (x + v)) = L') (k : jw_E d u hi (pc + 3) L' S h r hf) : jw_E d u hi pc L S h r hf := by
  refine ⟨k.1, k.2.1, k.2.2.1, ?_⟩
  intro p l e R s m args below meth c b Ls xs D A Q σ0 hC hT hX κ tys σ Hm locs cells slots ls M hs
  obtain ⟨M1, M2, M3, M4, M5⟩ := M
  subst hL
  subst hv
  have hm : (i, Value.int x) ∈ jw_lst σ b L := jw_lst_mem.mpr ⟨.int x, hl, rfl⟩
  obtain ⟨q, hq⟩ := List.getElem?_of_mem hm
  refine lv_iinc hC.1 hC.2.1 hd M5.has hq rfl hn rfl fun ls' hl' => ?_
  exact k.2.2.2 p l e R s m args below meth c b Ls xs D A Q σ0 hC hT hX κ tys σ Hm locs cells slots ls' ⟨M1, M2, M3, M4, jw_Lo.st1 M5.2.2.1 hn (fun j w hw => (M5.2.2.2 j w hw).2) jw_ok_int hl'⟩ hs

theorem jw_iadd {x y : Int32} (hd : decode u.2.1 pc = .ok (.iadd, 1)) (k : jw_E d u hi (pc + 1) L (.int (x + y) :: S) h r hf) : jw_E d u hi pc L (.int y :: .int x :: S) h r hf := by
  refine ⟨k.1, k.2.1, k.2.2.1, ?_⟩
  intro p l e R s m args below meth c b Ls xs D A Q σ0 hC hT hX κ tys σ Hm locs cells slots ls M hs
  exact lv_iadd hC.1 hC.2.1 hd (k.2.2.2 p l e R s m args below meth c b Ls xs D A Q σ0 hC hT hX κ tys σ Hm locs cells slots ls M (jw_okS.cons jw_ok_int hs.tl.tl))

theorem jw_isub {x y : Int32} (hd : decode u.2.1 pc = .ok (.isub, 1)) (k : jw_E d u hi (pc + 1) L (.int (x - y) :: S) h r hf) : jw_E d u hi pc L (.int y :: .int x :: S) h r hf := by
  refine ⟨k.1, k.2.1, k.2.2.1, ?_⟩
  intro p l e R s m args below meth c b Ls xs D A Q σ0 hC hT hX κ tys σ Hm locs cells slots ls M hs
  exact lv_isub hC.1 hC.2.1 hd (k.2.2.2 p l e R s m args below meth c b Ls xs D A Q σ0 hC hT hX κ tys σ Hm locs cells slots ls M (jw_okS.cons jw_ok_int hs.tl.tl))

theorem jw_imul {x y : Int32} (hd : decode u.2.1 pc = .ok (.imul, 1)) (k : jw_E d u hi (pc + 1) L (.int (x * y) :: S) h r hf) : jw_E d u hi pc L (.int y :: .int x :: S) h r hf := by
  refine ⟨k.1, k.2.1, k.2.2.1, ?_⟩
  intro p l e R s m args below meth c b Ls xs D A Q σ0 hC hT hX κ tys σ Hm locs cells slots ls M hs
  exact lv_imul hC.1 hC.2.1 hd (k.2.2.2 p l e R s m args below meth c b Ls xs D A Q σ0 hC hT hX κ tys σ Hm locs cells slots ls M (jw_okS.cons jw_ok_int hs.tl.tl))

theorem jw_iand {x y : Int32} (hd : decode u.2.1 pc = .ok (.iand, 1)) (k : jw_E d u hi (pc + 1) L (.int (x &&& y) :: S) h r hf) : jw_E d u hi pc L (.int y :: .int x :: S) h r hf := by
  refine ⟨k.1, k.2.1, k.2.2.1, ?_⟩
  intro p l e R s m args below meth c b Ls xs D A Q σ0 hC hT hX κ tys σ Hm locs cells slots ls M hs
  exact lv_iand hC.1 hC.2.1 hd (k.2.2.2 p l e R s m args below meth c b Ls xs D A Q σ0 hC hT hX κ tys σ Hm locs cells slots ls M (jw_okS.cons jw_ok_int hs.tl.tl))

theorem jw_ixor {x y : Int32} (hd : decode u.2.1 pc = .ok (.ixor, 1)) (k : jw_E d u hi (pc + 1) L (.int (x ^^^ y) :: S) h r hf) : jw_E d u hi pc L (.int y :: .int x :: S) h r hf := by
  refine ⟨k.1, k.2.1, k.2.2.1, ?_⟩
  intro p l e R s m args below meth c b Ls xs D A Q σ0 hC hT hX κ tys σ Hm locs cells slots ls M hs
  exact lv_ixor hC.1 hC.2.1 hd (k.2.2.2 p l e R s m args below meth c b Ls xs D A Q σ0 hC hT hX κ tys σ Hm locs cells slots ls M (jw_okS.cons jw_ok_int hs.tl.tl))

theorem jw_idiv {x y : Int32} (hd : decode u.2.1 pc = .ok (.idiv, 1)) (hne : ¬ y = 0) (k : jw_E d u hi (pc + 1) L (.int (x / y) :: S) h r hf) : jw_E d u hi pc L (.int y :: .int x :: S) h r hf := by
  refine ⟨k.1, k.2.1, k.2.2.1, ?_⟩
  intro p l e R s m args below meth c b Ls xs D A Q σ0 hC hT hX κ tys σ Hm locs cells slots ls M hs
  exact lv_idiv hC.1 hC.2.1 hd hne (k.2.2.2 p l e R s m args below meth c b Ls xs D A Q σ0 hC hT hX κ tys σ Hm locs cells slots ls M (jw_okS.cons jw_ok_int hs.tl.tl))

theorem jw_irem {x y : Int32} (hd : decode u.2.1 pc = .ok (.irem, 1)) (hne : ¬ y = 0) (k : jw_E d u hi (pc + 1) L (.int (x - x / y * y) :: S) h r hf) : jw_E d u hi pc L (.int y :: .int x :: S) h r hf := by
  refine ⟨k.1, k.2.1, k.2.2.1, ?_⟩
  intro p l e R s m args below meth c b Ls xs D A Q σ0 hC hT hX κ tys σ Hm locs cells slots ls M hs
  exact lv_irem hC.1 hC.2.1 hd hne (k.2.2.2 p l e R s m args below meth c b Ls xs D A Q σ0 hC hT hX κ tys σ Hm locs cells slots ls M (jw_okS.cons jw_ok_int hs.tl.tl))

theorem jw_ineg {x : Int32} (hd : decode u.2.1 pc = .ok (.ineg, 1)) (k : jw_E d u hi (pc + 1) L (.int (-x) :: S) h r hf) : jw_E d u hi pc L (.int x :: S) h r hf := by
  refine ⟨k.1, k.2.1, k.2.2.1, ?_⟩
  intro p l e R s m args below meth c b Ls xs D A Q σ0 hC hT hX κ tys σ Hm locs cells slots ls M hs
  exact lv_ineg hC.1 hC.2.1 hd (k.2.2.2 p l e R s m args below meth c b Ls xs D A Q σ0 hC hT hX κ tys σ Hm locs cells slots ls M (jw_okS.cons jw_ok_int hs.tl))

theorem jw_land {x y : Int64} (hd : decode u.2.1 pc = .ok (.land, 1)) (k : jw_E d u hi (pc + 1) L (.long (x &&& y) :: S) h r hf) : jw_E d u hi pc L (.long y :: .long x :: S) h r hf := by
  refine ⟨k.1, k.2.1, k.2.2.1, ?_⟩
  intro p l e R s m args below meth c b Ls xs D A Q σ0 hC hT hX κ tys σ Hm locs cells slots ls M hs
  exact lv_land hC.1 hC.2.1 hd (k.2.2.2 p l e R s m args below meth c b Ls xs D A Q σ0 hC hT hX κ tys σ Hm locs cells slots ls M (jw_okS.cons jw_ok_long hs.tl.tl))

theorem jw_lor {x y : Int64} (hd : decode u.2.1 pc = .ok (.lor, 1)) (k : jw_E d u hi (pc + 1) L (.long (x ||| y) :: S) h r hf) : jw_E d u hi pc L (.long y :: .long x :: S) h r hf := by
  refine ⟨k.1, k.2.1, k.2.2.1, ?_⟩
  intro p l e R s m args below meth c b Ls xs D A Q σ0 hC hT hX κ tys σ Hm locs cells slots ls M hs
  exact lv_lor hC.1 hC.2.1 hd (k.2.2.2 p l e R s m args below meth c b Ls xs D A Q σ0 hC hT hX κ tys σ Hm locs cells slots ls M (jw_okS.cons jw_ok_long hs.tl.tl))

theorem jw_lxor {x y : Int64} (hd : decode u.2.1 pc = .ok (.lxor, 1)) (k : jw_E d u hi (pc + 1) L (.long (x ^^^ y) :: S) h r hf) : jw_E d u hi pc L (.long y :: .long x :: S) h r hf := by
  refine ⟨k.1, k.2.1, k.2.2.1, ?_⟩
  intro p l e R s m args below meth c b Ls xs D A Q σ0 hC hT hX κ tys σ Hm locs cells slots ls M hs
  exact lv_lxor hC.1 hC.2.1 hd (k.2.2.2 p l e R s m args below meth c b Ls xs D A Q σ0 hC hT hX κ tys σ Hm locs cells slots ls M (jw_okS.cons jw_ok_long hs.tl.tl))

theorem jw_lshl {x : Int64} {y : Int32} (hd : decode u.2.1 pc = .ok (.lshl, 1)) (k : jw_E d u hi (pc + 1) L (.long (x <<< (y.toInt64 &&& 63)) :: S) h r hf) : jw_E d u hi pc L (.int y :: .long x :: S) h r hf := by
  refine ⟨k.1, k.2.1, k.2.2.1, ?_⟩
  intro p l e R s m args below meth c b Ls xs D A Q σ0 hC hT hX κ tys σ Hm locs cells slots ls M hs
  exact lv_lshl hC.1 hC.2.1 hd rfl (k.2.2.2 p l e R s m args below meth c b Ls xs D A Q σ0 hC hT hX κ tys σ Hm locs cells slots ls M (jw_okS.cons jw_ok_long hs.tl.tl))

theorem jw_lcmp {x y : Int64} (hd : decode u.2.1 pc = .ok (.lcmp, 1)) (k : jw_E d u hi (pc + 1) L (.int (lg_cmp x y) :: S) h r hf) : jw_E d u hi pc L (.long y :: .long x :: S) h r hf := by
  refine ⟨k.1, k.2.1, k.2.2.1, ?_⟩
  intro p l e R s m args below meth c b Ls xs D A Q σ0 hC hT hX κ tys σ Hm locs cells slots ls M hs
  exact W.lcmp hC.1 hC.2.1 hd (k.2.2.2 p l e R s m args below meth c b Ls xs D A Q σ0 hC hT hX κ tys σ Hm locs cells slots ls M (jw_okS.cons jw_ok_int hs.tl.tl))

theorem jw_i2l {x : Int32} (hd : decode u.2.1 pc = .ok (.i2l, 1)) (k : jw_E d u hi (pc + 1) L (.long x.toInt64 :: S) h r hf) : jw_E d u hi pc L (.int x :: S) h r hf := by
  refine ⟨k.1, k.2.1, k.2.2.1, ?_⟩
  intro p l e R s m args below meth c b Ls xs D A Q σ0 hC hT hX κ tys σ Hm locs cells slots ls M hs
  exact lv_i2l hC.1 hC.2.1 hd rfl (k.2.2.2 p l e R s m args below meth c b Ls xs D A Q σ0 hC hT hX κ tys σ Hm locs cells slots ls M (jw_okS.cons jw_ok_long hs.tl))

theorem jw_l2i {x : Int64} (hd : decode u.2.1 pc = .ok (.l2i, 1)) (k : jw_E d u hi (pc + 1) L (.int x.toInt32 :: S) h r hf) : jw_E d u hi pc L (.long x :: S) h r hf := by
  refine ⟨k.1, k.2.1, k.2.2.1, ?_⟩
  intro p l e R s m args below meth c b Ls xs D A Q σ0 hC hT hX κ tys σ Hm locs cells slots ls M hs
  exact lv_l2i hC.1 hC.2.1 hd rfl (k.2.2.2 p l e R s m args below meth c b Ls xs D A Q σ0 hC hT hX κ tys σ Hm locs cells slots ls M (jw_okS.cons jw_ok_int hs.tl))

theorem jw_i2b {x : Int32} (hd : decode u.2.1 pc = .ok (.i2b, 1)) (k : jw_E d u hi (pc + 1) L (.int x.toInt8.toInt32 :: S) h r hf) : jw_E d u hi pc L (.int x :: S) h r hf := by
  refine ⟨k.1, k.2.1, k.2.2.1, ?_⟩
  intro p l e R s m args below meth c b Ls xs D A Q σ0 hC hT hX κ tys σ Hm locs cells slots ls M hs
  exact lv_i2b hC.1 hC.2.1 hd rfl (k.2.2.2 p l e R s m args below meth c b Ls xs D A Q σ0 hC hT hX κ tys σ Hm locs cells slots ls M (jw_okS.cons jw_ok_int hs.tl))

theorem jw_dup {v : Value} (hd : decode u.2.1 pc = .ok (.dup, 1)) (hv : v.category = 1) (k : jw_E d u hi (pc + 1) L (v :: v :: S) h r hf) : jw_E d u hi pc L (v :: S) h r hf := by
  refine ⟨k.1, k.2.1, k.2.2.1, ?_⟩
  intro p l e R s m args below meth c b Ls xs D A Q σ0 hC hT hX κ tys σ Hm locs cells slots ls M hs
  exact lv_dup hC.1 hC.2.1 hd ((jw_v_cat σ b v).trans hv) (k.2.2.2 p l e R s m args below meth c b Ls xs D A Q σ0 hC hT hX κ tys σ Hm locs cells slots ls M (jw_okS.cons hs.hd hs))
theorem jw_pop {v : Value} (hd : decode u.2.1 pc = .ok (.pop, 1)) (hv : v.category = 1) (k : jw_E d u hi (pc + 1) L S h r hf) : jw_E d u hi pc L (v :: S) h r hf := by
  refine ⟨k.1, k.2.1, k.2.2.1, ?_⟩
  intro p l e R s m args below meth c b Ls xs D A Q σ0 hC hT hX κ tys σ Hm locs cells slots ls M hs
  exact lv_pop hC.1 hC.2.1 hd ((jw_v_cat σ b v).trans hv) (k.2.2.2 p l e R s m args below meth c b Ls xs D A Q σ0 hC hT hX κ tys σ Hm locs cells slots ls M hs.tl)
theorem jw_dup2 {v w : Value} (hd : decode u.2.1 pc = .ok (.dup2, 1)) (hv : v.category = 1) (hw : w.category = 1) (k : jw_E d u hi (pc + 1) L (v :: w :: v :: w :: S) h r hf) : jw_E d u hi pc L (v :: w :: S) h r hf := by
  refine ⟨k.1, k.2.1, k.2.2.1, ?_⟩
  intro p l e R s m args below meth c b Ls xs D A Q σ0 hC hT hX κ tys σ Hm locs cells slots ls M hs
  exact lv_dup2_11 hC.1 hC.2.1 hd ((jw_v_cat σ b v).trans hv) ((jw_v_cat σ b w).trans hw) (k.2.2.2 p l e R s m args below meth c b Ls xs D A Q σ0 hC hT hX κ tys σ Hm locs cells slots ls M (jw_okS.cons hs.hd (jw_okS.cons hs.tl.hd hs)))

theorem jw_icmp_eq_t {x y : Int32} {off : Int} {tgt : Nat} (hd : decode u.2.1 pc = .ok (.if_icmp .eq off, 3)) (ht : (pc : Int) + off = (tgt : Int)) (hc : x = y) (k : jw_E d u hi tgt L S h r hf) : jw_E d u hi pc L (.int y :: .int x :: S) h r hf := by
  refine ⟨k.1, k.2.1, k.2.2.1, ?_⟩
  intro p l e R s m args below meth c b Ls xs D A Q σ0 hC hT hX κ tys σ Hm locs cells slots ls M hs
  exact lv_icmp_eq hC.1 hC.2.1 hd ht (fun _ => k.2.2.2 p l e R s m args below meth c b Ls xs D A Q σ0 hC hT hX κ tys σ Hm locs cells slots ls M hs.tl.tl) (fun q => absurd hc q)
theorem jw_icmp_eq_f {x y : Int32} {off : Int} {tgt : Nat} (hd : decode u.2.1 pc = .ok (.if_icmp .eq off, 3)) (ht : (pc : Int) + off = (tgt : Int)) (hc : ¬ (x = y)) (k : jw_E d u hi (pc + 3) L S h r hf) : jw_E d u hi pc L (.int y :: .int x :: S) h r hf := by
  refine ⟨k.1, k.2.1, k.2.2.1, ?_⟩
  intro p l e R s m args below meth c b Ls xs D A Q σ0 hC hT hX κ tys σ Hm locs cells slots ls M hs
  exact lv_icmp_eq hC.1 hC.2.1 hd ht (fun q => absurd q hc) (fun _ => k.2.2.2 p l e R s m args below meth c b Ls xs D A Q σ0 hC hT hX κ tys σ Hm locs cells slots ls M hs.tl.tl)

theorem jw_if_eq_t {x : Int32} {off : Int} {tgt : Nat} (hd : decode u.2.1 pc = .ok (.ifCond .eq off, 3)) (ht : (pc : Int) + off = (tgt : Int)) (hc : x = 0) (k : jw_E d u hi tgt L S h r hf) : jw_E d u hi pc L (.int x :: S) h r hf := by
  refine ⟨k.1, k.2.1, k.2.2.1, ?_⟩
  intro p l e R s m args below meth c b Ls xs D A Q σ0 hC hT hX κ tys σ Hm locs cells slots ls M hs
  exact lv_if_eq hC.1 hC.2.1 hd ht (fun _ => k.2.2.2 p l e R s m args below meth c b Ls xs D A Q σ0 hC hT hX κ tys σ Hm locs cells slots ls M hs.tl) (fun q => absurd hc q)
theorem jw_if_eq_f {x : Int32} {off : Int} {tgt : Nat} (hd : decode u.2.1 pc = .ok (.ifCond .eq off, 3)) (ht : (pc : Int) + off = (tgt : Int)) (hc : ¬ (x = 0)) (k : jw_E d u hi (pc + 3) L S h r hf) : jw_E d u hi pc L (.int x :: S) h r hf := by
  refine ⟨k.1, k.2.1, k.2.2.1, ?_⟩
  intro p l e R s m args below meth c b Ls xs D A Q σ0 hC hT hX κ tys σ Hm locs cells slots ls M hs
  exact lv_if_eq hC.1 hC.2.1 hd ht (fun q => absurd q hc) (fun _ => k.2.2.2 p l e R s m args below meth c b Ls xs D A Q σ0 hC hT hX κ tys σ Hm locs cells slots ls M hs.tl)

theorem jw_icmp_lt_t {x y : Int32} {off : Int} {tgt : Nat} (hd : decode u.2.1 pc = .ok (.if_icmp .lt off, 3)) (ht : (pc : Int) + off = (tgt : Int)) (hc : x < y) (k : jw_E d u hi tgt L S h r hf) : jw_E d u hi pc L (.int y :: .int x :: S) h r hf := by
  refine ⟨k.1, k.2.1, k.2.2.1, ?_⟩
  intro p l e R s m args below meth c b Ls xs D A Q σ0 hC hT hX κ tys σ Hm locs cells slots ls M hs
  exact lv_icmp_lt hC.1 hC.2.1 hd ht (fun _ => k.2.2.2 p l e R s m args below meth c b Ls xs D A Q σ0 hC hT hX κ tys σ Hm locs cells slots ls M hs.tl.tl) (fun q => absurd hc q)
theorem jw_icmp_lt_f {x y : Int32} {off : Int} {tgt : Nat} (hd : decode u.2.1 pc = .ok (.if_icmp .lt off, 3)) (ht : (pc : Int) + off = (tgt : Int)) (hc : ¬ (x < y)) (k : jw_E d u hi (pc + 3) L S h r hf) : jw_E d u hi pc L (.int y :: .int x :: S) h r hf := by
  refine ⟨k.1, k.2.1, k.2.2.1, ?_⟩
  intro p l e R s m args below meth c b Ls xs D A Q σ0 hC hT hX κ tys σ Hm locs cells slots ls M hs
  exact lv_icmp_lt hC.1 hC.2.1 hd ht (fun q => absurd q hc) (fun _ => k.2.2.2 p l e R s m args below meth c b Ls xs D A Q σ0 hC hT hX κ tys σ Hm locs cells slots ls M hs.tl.tl)

theorem jw_if_lt_t {x : Int32} {off : Int} {tgt : Nat} (hd : decode u.2.1 pc = .ok (.ifCond .lt off, 3)) (ht : (pc : Int) + off = (tgt : Int)) (hc : x < 0) (k : jw_E d u hi tgt L S h r hf) : jw_E d u hi pc L (.int x :: S) h r hf := by
  refine ⟨k.1, k.2.1, k.2.2.1, ?_⟩
  intro p l e R s m args below meth c b Ls xs D A Q σ0 hC hT hX κ tys σ Hm locs cells slots ls M hs
  exact lv_if_lt hC.1 hC.2.1 hd ht (fun _ => k.2.2.2 p l e R s m args below meth c b Ls xs D A Q σ0 hC hT hX κ tys σ Hm locs cells slots ls M hs.tl) (fun q => absurd hc q)
theorem jw_if_lt_f {x : Int32} {off : Int} {tgt : Nat} (hd : decode u.2.1 pc = .ok (.ifCond .lt off, 3)) (ht : (pc : Int) + off = (tgt : Int)) (hc : ¬ (x < 0)) (k : jw_E d u hi (pc + 3) L S h r hf) : jw_E d u hi pc L (.int x :: S) h r hf := by
  refine ⟨k.1, k.2.1, k.2.2.1, ?_⟩
  intro p l e R s m args below meth c b Ls xs D A Q σ0 hC hT hX κ tys σ Hm locs cells slots ls M hs
  exact lv_if_lt hC.1 hC.2.1 hd ht (fun q => absurd q hc) (fun _ => k.2.2.2 p l e R s m args below meth c b Ls xs D A Q σ0 hC hT hX κ tys σ Hm locs cells slots ls M hs.tl)

theorem jw_icmp_ge_t {x y : Int32} {off : Int} {tgt : Nat} (hd : decode u.2.1 pc = .ok (.if_icmp .ge off, 3)) (ht : (pc : Int) + off = (tgt : Int)) (hc : y ≤ x) (k : jw_E d u hi tgt L S h r hf) : jw_E d u hi pc L (.int y :: .int x :: S) h r hf := by
  refine ⟨k.1, k.2.1, k.2.2.1, ?_⟩
  intro p l e R s m args below meth c b Ls xs D A Q σ0 hC hT hX κ tys σ Hm locs cells slots ls M hs
  exact lv_icmp_ge hC.1 hC.2.1 hd ht (fun _ => k.2.2.2 p l e R s m args below meth c b Ls xs D A Q σ0 hC hT hX κ tys σ Hm locs cells slots ls M hs.tl.tl) (fun q => absurd hc q)
theorem jw_icmp_ge_f {x y : Int32} {off : Int} {tgt : Nat} (hd : decode u.2.1 pc = .ok (.if_icmp .ge off, 3)) (ht : (pc : Int) + off = (tgt : Int)) (hc : ¬ (y ≤ x)) (k : jw_E d u hi (pc + 3) L S h r hf) : jw_E d u hi pc L (.int y :: .int x :: S) h r hf := by
  refine ⟨k.1, k.2.1, k.2.2.1, ?_⟩
  intro p l e R s m args below meth c b Ls xs D A Q σ0 hC hT hX κ tys σ Hm locs cells slots ls M hs
  exact lv_icmp_ge hC.1 hC.2.1 hd ht (fun q => absurd q hc) (fun _ => k.2.2.2 p l e R s m args below meth c b Ls xs D A Q σ0 hC hT hX κ tys σ Hm locs cells slots ls M hs.tl.tl)

theorem jw_if_ge_t {x : Int32} {off : Int} {tgt : Nat} (hd : decode u.2.1 pc = .ok (.ifCond .ge off, 3)) (ht : (pc : Int) + off = (tgt : Int)) (hc : 0 ≤ x) (k : jw_E d u hi tgt L S h r hf) : jw_E d u hi pc L (.int x :: S) h r hf := by
  refine ⟨k.1, k.2.1, k.2.2.1, ?_⟩
  intro p l e R s m args below meth c b Ls xs D A Q σ0 hC hT hX κ tys σ Hm locs cells slots ls M hs
  exact lv_if_ge hC.1 hC.2.1 hd ht (fun _ => k.2.2.2 p l e R s m args below meth c b Ls xs D A Q σ0 hC hT hX κ tys σ Hm locs cells slots ls M hs.tl) (fun q => absurd hc q)
theorem jw_if_ge_f {x : Int32} {off : Int} {tgt : Nat} (hd : decode u.2.1 pc = .ok (.ifCond .ge off, 3)) (ht : (pc : Int) + off = (tgt : Int)) (hc : ¬ (0 ≤ x)) (k : jw_E d u hi (pc + 3) L S h r hf) : jw_E d u hi pc L (.int x :: S) h r hf := by
  refine ⟨k.1, k.2.1, k.2.2.1, ?_⟩
  intro p l e R s m args below meth c b Ls xs D A Q σ0 hC hT hX κ tys σ Hm locs cells slots ls M hs
  exact lv_if_ge hC.1 hC.2.1 hd ht (fun q => absurd q hc) (fun _ => k.2.2.2 p l e R s m args below meth c b Ls xs D A Q σ0 hC hT hX κ tys σ Hm locs cells slots ls M hs.tl)

theorem jw_icmp_gt_t {x y : Int32} {off : Int} {tgt : Nat} (hd : decode u.2.1 pc = .ok (.if_icmp .gt off, 3)) (ht : (pc : Int) + off = (tgt : Int)) (hc : y < x) (k : jw_E d u hi tgt L S h r hf) : jw_E d u hi pc L (.int y :: .int x :: S) h r hf := by
  refine ⟨k.1, k.2.1, k.2.2.1, ?_⟩
  intro p l e R s m args below meth c b Ls xs D A Q σ0 hC hT hX κ tys σ Hm locs cells slots ls M hs
  exact lv_icmp_gt hC.1 hC.2.1 hd ht (fun _ => k.2.2.2 p l e R s m args below meth c b Ls xs D A Q σ0 hC hT hX κ tys σ Hm locs cells slots ls M hs.tl.tl) (fun q => absurd hc q)
theorem jw_icmp_gt_f {x y : Int32} {off : Int} {tgt : Nat} (hd : decode u.2.1 pc = .ok (.if_icmp .gt off, 3)) (ht : (pc : Int) + off = (tgt : Int)) (hc : ¬ (y < x)) (k : jw_E d u hi (pc + 3) L S h r hf) : jw_E d u hi pc L (.int y :: .int x :: S) h r hf := by
  refine ⟨k.1, k.2.1, k.2.2.1, ?_⟩
  intro p l e R s m args below meth c b Ls xs D A Q σ0 hC hT hX κ tys σ Hm locs cells slots ls M hs
  exact lv_icmp_gt hC.1 hC.2.1 hd ht (fun q => absurd q hc) (fun _ => k.2.2.2 p l e R s m args below meth c b Ls xs D A Q σ0 hC hT hX κ tys σ Hm locs cells slots ls M hs.tl.tl)

theorem jw_if_gt_t {x : Int32} {off : Int} {tgt : Nat} (hd : decode u.2.1 pc = .ok (.ifCond .gt off, 3)) (ht : (pc : Int) + off = (tgt : Int)) (hc : 0 < x) (k : jw_E d u hi tgt L S h r hf) : jw_E d u hi pc L (.int x :: S) h r hf := by
  refine ⟨k.1, k.2.1, k.2.2.1, ?_⟩
  intro p l e R s m args below meth c b Ls xs D A Q σ0 hC hT hX κ tys σ Hm locs cells slots ls M hs
  exact lv_if_gt hC.1 hC.2.1 hd ht (fun _ => k.2.2.2 p l e R s m args below meth c b Ls xs D A Q σ0 hC hT hX κ tys σ Hm locs cells slots ls M hs.tl) (fun q => absurd hc q)
theorem jw_if_gt_f {x : Int32} {off : Int} {tgt : Nat} (hd : decode u.2.1 pc = .ok (.ifCond .gt off, 3)) (ht : (pc : Int) + off = (tgt : Int)) (hc : ¬ (0 < x)) (k : jw_E d u hi (pc + 3) L S h r hf) : jw_E d u hi pc L (.int x :: S) h r hf := by
  refine ⟨k.1, k.2.1, k.2.2.1, ?_⟩
  intro p l e R s m args below meth c b Ls xs D A Q σ0 hC hT hX κ tys σ Hm locs cells slots ls M hs
  exact lv_if_gt hC.1 hC.2.1 hd ht (fun q => absurd q hc) (fun _ => k.2.2.2 p l e R s m args below meth c b Ls xs D A Q σ0 hC hT hX κ tys σ Hm locs cells slots ls M hs.tl)

theorem jw_icmp_le_t {x y : Int32} {off : Int} {tgt : Nat} (hd : decode u.2.1 pc = .ok (.if_icmp .le off, 3)) (ht : (pc : Int) + off = (tgt : Int)) (hc : x ≤ y) (k : jw_E d u hi tgt L S h r hf) : jw_E d u hi pc L (.int y :: .int x :: S) h r hf := by
  refine ⟨k.1, k.2.1, k.2.2.1, ?_⟩
  intro p l e R s m args below meth c b Ls xs D A Q σ0 hC hT hX κ tys σ Hm locs cells slots ls M hs
  exact lv_icmp_le hC.1 hC.2.1 hd ht (fun _ => k.2.2.2 p l e R s m args below meth c b Ls xs D A Q σ0 hC hT hX κ tys σ Hm locs cells slots ls M hs.tl.tl) (fun q => absurd hc q)
theorem jw_icmp_le_f {x y : Int32} {off : Int} {tgt : Nat} (hd : decode u.2.1 pc = .ok (.if_icmp .le off, 3)) (ht : (pc : Int) + off = (tgt : Int)) (hc : ¬ (x ≤ y)) (k : jw_E d u hi (pc + 3) L S h r hf) : jw_E d u hi pc L (.int y :: .int x :: S) h r hf := by
  refine ⟨k.1, k.2.1, k.2.2.1, ?_⟩
  intro p l e R s m args below meth c b Ls xs D A Q σ0 hC hT hX κ tys σ Hm locs cells slots ls M hs
  exact lv_icmp_le hC.1 hC.2.1 hd ht (fun q => absurd q hc) (fun _ => k.2.2.2 p l e R s m args below meth c b Ls xs D A Q σ0 hC hT hX κ tys σ Hm locs cells slots ls M hs.tl.tl)

theorem jw_if_le_t {x : Int32} {off : Int} {tgt : Nat} (hd : decode u.2.1 pc = .ok (.ifCond .le off, 3)) (ht : (pc : Int) + off = (tgt : Int)) (hc : x ≤ 0) (k : jw_E d u hi tgt L S h r hf) : jw_E d u hi pc L (.int x :: S) h r hf := by
  refine ⟨k.1, k.2.1, k.2.2.1, ?_⟩
  intro p l e R s m args below meth c b Ls xs D A Q σ0 hC hT hX κ tys σ Hm locs cells slots ls M hs
  exact lv_if_le hC.1 hC.2.1 hd ht (fun _ => k.2.2.2 p l e R s m args below meth c b Ls xs D A Q σ0 hC hT hX κ tys σ Hm locs cells slots ls M hs.tl) (fun q => absurd hc q)
theorem jw_if_le_f {x : Int32} {off : Int} {tgt : Nat} (hd : decode u.2.1 pc = .ok (.ifCond .le off, 3)) (ht : (pc : Int) + off = (tgt : Int)) (hc : ¬ (x ≤ 0)) (k : jw_E d u hi (pc + 3) L S h r hf) : jw_E d u hi pc L (.int x :: S) h r hf := by
  refine ⟨k.1, k.2.1, k.2.2.1, ?_⟩
  intro p l e R s m args below meth c b Ls xs D A Q σ0 hC hT hX κ tys σ Hm locs cells slots ls M hs
  exact lv_if_le hC.1 hC.2.1 hd ht (fun q => absurd q hc) (fun _ => k.2.2.2 p l e R s m args below meth c b Ls xs D A Q σ0 hC hT hX κ tys σ Hm locs cells slots ls M hs.tl)

theorem jw_icmp_ne_t {x y : Int32} {off : Int} {tgt : Nat} (hd : decode u.2.1 pc = .ok (.if_icmp .ne off, 3)) (ht : (pc : Int) + off = (tgt : Int)) (hc : ¬ x = y) (k : jw_E d u hi tgt L S h r hf) : jw_E d u hi pc L (.int y :: .int x :: S) h r hf := by
  refine ⟨k.1, k.2.1, k.2.2.1, ?_⟩
  intro p l e R s m args below meth c b Ls xs D A Q σ0 hC hT hX κ tys σ Hm locs cells slots ls M hs
  exact lv_icmp_ne hC.1 hC.2.1 hd ht (fun _ => k.2.2.2 p l e R s m args below meth c b Ls xs D A Q σ0 hC hT hX κ tys σ Hm locs cells slots ls M hs.tl.tl) (fun q => absurd q hc)
theorem jw_icmp_ne_f {x y : Int32} {off : Int} {tgt : Nat} (hd : decode u.2.1 pc = .ok (.if_icmp .ne off, 3)) (ht : (pc : Int) + off = (tgt : Int)) (hc : x = y) (k : jw_E d u hi (pc + 3) L S h r hf) : jw_E d u hi pc L (.int y :: .int x :: S) h r hf := by
  refine ⟨k.1, k.2.1, k.2.2.1, ?_⟩
  intro p l e R s m args below meth c b Ls xs D A Q σ0 hC hT hX κ tys σ Hm locs cells slots ls M hs
  exact lv_icmp_ne hC.1 hC.2.1 hd ht (fun q => absurd hc q) (fun _ => k.2.2.2 p l e R s m args below meth c b Ls xs D A Q σ0 hC hT hX κ tys σ Hm locs cells slots ls M hs.tl.tl)

theorem jw_if_ne_t {x : Int32} {off : Int} {tgt : Nat} (hd : decode u.2.1 pc = .ok (.ifCond .ne off, 3)) (ht : (pc : Int) + off = (tgt : Int)) (hc : ¬ x = 0) (k : jw_E d u hi tgt L S h r hf) : jw_E d u hi pc L (.int x :: S) h r hf := by
  refine ⟨k.1, k.2.1, k.2.2.1, ?_⟩
  intro p l e R s m args below meth c b Ls xs D A Q σ0 hC hT hX κ tys σ Hm locs cells slots ls M hs
  exact lv_if_ne hC.1 hC.2.1 hd ht (fun _ => k.2.2.2 p l e R s m args below meth c b Ls xs D A Q σ0 hC hT hX κ tys σ Hm locs cells slots ls M hs.tl) (fun q => absurd q hc)
theorem jw_if_ne_f {x : Int32} {off : Int} {tgt : Nat} (hd : decode u.2.1 pc = .ok (.ifCond .ne off, 3)) (ht : (pc : Int) + off = (tgt : Int)) (hc : x = 0) (k : jw_E d u hi (pc + 3) L S h r hf) : jw_E d u hi pc L (.int x :: S) h r hf := by
  refine ⟨k.1, k.2.1, k.2.2.1, ?_⟩
  intro p l e R s m args below meth c b Ls xs D A Q σ0 hC hT hX κ tys σ Hm locs cells slots ls M hs
  exact lv_if_ne hC.1 hC.2.1 hd ht (fun q => absurd hc q) (fun _ => k.2.2.2 p l e R s m args below meth c b Ls xs D A Q σ0 hC hT hX κ tys σ Hm locs cells slots ls M hs.tl)

theorem jw_goto {off : Int} {tgt : Nat} (hd : decode u.2.1 pc = .ok (.goto off, 3)) (ht : (pc : Int) + off = (tgt : Int)) (k : jw_E d u hi tgt L S h r hf) : jw_E d u hi pc L S h r hf := by
  refine ⟨k.1, k.2.1, k.2.2.1, ?_⟩
  intro p l e R s m args below meth c b Ls xs D A Q σ0 hC hT hX κ tys σ Hm locs cells slots ls M hs
  exact lv_goto hC.1 hC.2.1 hd ht (k.2.2.2 p l e R s m args below meth c b Ls xs D A Q σ0 hC hT hX κ tys σ Hm locs cells slots ls M hs)
theorem jw_ifnull_t {off : Int} {tgt : Nat} {o : Option Nat} (hd : decode u.2.1 pc = .ok (.ifnull off, 3)) (ht : (pc : Int) + off = (tgt : Int)) (hc : o = none) (k : jw_E d u hi tgt L S h r hf) : jw_E d u hi pc L (va_rf o :: S) h r hf := by
  subst hc
  refine ⟨k.1, k.2.1, k.2.2.1, ?_⟩
  intro p l e R s m args below meth c b Ls xs D A Q σ0 hC hT hX κ tys σ Hm locs cells slots ls M hs
  exact lv_ifnullN hC.1 hC.2.1 hd ht (k.2.2.2 p l e R s m args below meth c b Ls xs D A Q σ0 hC hT hX κ tys σ Hm locs cells slots ls M hs.tl)
theorem jw_ifnull_f {off : Int} {o : Option Nat} (hd : decode u.2.1 pc = .ok (.ifnull off, 3)) (hc : ¬ o = none) (k : jw_E d u hi (pc + 3) L S h r hf) : jw_E d u hi pc L (va_rf o :: S) h r hf := by
  obtain ⟨a, rfl⟩ := Option.ne_none_iff_exists'.mp hc
  refine ⟨k.1, k.2.1, k.2.2.1, ?_⟩
  intro p l e R s m args below meth c b Ls xs D A Q σ0 hC hT hX κ tys σ Hm locs cells slots ls M hs
  exact lv_ifnull hC.1 hC.2.1 hd (k.2.2.2 p l e R s m args below meth c b Ls xs D A Q σ0 hC hT hX κ tys σ Hm locs cells slots ls M hs.tl)
theorem jw_ifnonnull_t {off : Int} {tgt : Nat} {o : Option Nat} (hd : decode u.2.1 pc = .ok (.ifnonnull off, 3)) (ht : (pc : Int) + off = (tgt : Int)) (hc : ¬ o = none) (k : jw_E d u hi tgt L S h r hf) : jw_E d u hi pc L (va_rf o :: S) h r hf := by
  obtain ⟨a, rfl⟩ := Option.ne_none_iff_exists'.mp hc
  refine ⟨k.1, k.2.1, k.2.2.1, ?_⟩
  intro p l e R s m args below meth c b Ls xs D A Q σ0 hC hT hX κ tys σ Hm locs cells slots ls M hs
  exact lv_ifnonnull hC.1 hC.2.1 hd ht (k.2.2.2 p l e R s m args below meth c b Ls xs D A Q σ0 hC hT hX κ tys σ Hm locs cells slots ls M hs.tl)
theorem jw_ifnonnull_f {off : Int} {o : Option Nat} (hd : decode u.2.1 pc = .ok (.ifnonnull off, 3)) (hc : o = none) (k : jw_E d u hi (pc + 3) L S h r hf) : jw_E d u hi pc L (va_rf o :: S) h r hf := by
  subst hc
  refine ⟨k.1, k.2.1, k.2.2.1, ?_⟩
  intro p l e R s m args below meth c b Ls xs D A Q σ0 hC hT hX κ tys σ Hm locs cells slots ls M hs
  exact lv_ifnonnullN hC.1 hC.2.1 hd (k.2.2.2 p l e R s m args below meth c b Ls xs D A Q σ0 hC hT hX κ tys σ Hm locs cells slots ls M hs.tl)
theorem jw_lookup {dflt : Int} {ps : Array (Int × Int)} {len : Nat} {x : Int32} {off : Int} {tgt : Nat} (hd : decode u.2.1 pc = .ok (.lookupswitch dflt ps, len)) (hp : (ps.toList.zip (ps.toList.drop 1)).all (fun (a, next) => a.1 < next.1) = true) (ho : Op.lookupswitch.offset ps.toList dflt x.toInt = off) (ht : (pc : Int) + off = (tgt : Int)) (k : jw_E d u hi tgt L S h r hf) : jw_E d u hi pc L (.int x :: S) h r hf := by
  refine ⟨k.1, k.2.1, k.2.2.1, ?_⟩
  intro p l e R s m args below meth c b Ls xs D A Q σ0 hC hT hX κ tys σ Hm locs cells slots ls M hs
  exact lv_lookup hC.1 hC.2.1 hd hp ho ht (k.2.2.2 p l e R s m args below meth c b Ls xs D A Q σ0 hC hT hX κ tys σ Hm locs cells slots ls M hs.tl)
theorem jw_tableOut {dflt lo hi0 : Int} {offs : Array Int} {len : Nat} {x : Int32} {tgt : Nat} (hd : decode u.2.1 pc = .ok (.tableswitch dflt lo hi0 offs, len)) (hx : x.toInt < lo ∨ hi0 < x.toInt) (ht : (pc : Int) + dflt = (tgt : Int)) (k : jw_E d u hi tgt L S h r hf) : jw_E d u hi pc L (.int x :: S) h r hf := by
  refine ⟨k.1, k.2.1, k.2.2.1, ?_⟩
  intro p l e R s m args below meth c b Ls xs D A Q σ0 hC hT hX κ tys σ Hm locs cells slots ls M hs
  exact lv_tableOut hC.1 hC.2.1 hd hx ht (k.2.2.2 p l e R s m args below meth c b Ls xs D A Q σ0 hC hT hX κ tys σ Hm locs cells slots ls M hs.tl)
theorem jw_tableIn {dflt lo hi0 : Int} {offs : Array Int} {len : Nat} {x : Int32} {off : Int} {tgt : Nat} (hd : decode u.2.1 pc = .ok (.tableswitch dflt lo hi0 offs, len)) (h1 : ¬ x.toInt < lo) (h2 : ¬ hi0 < x.toInt) (ho : offs[(x.toInt - lo).toNat]? = some off) (ht : (pc : Int) + off = (tgt : Int)) (k : jw_E d u hi tgt L S h r hf) : jw_E d u hi pc L (.int x :: S) h r hf := by
  refine ⟨k.1, k.2.1, k.2.2.1, ?_⟩
  intro p l e R s m args below meth c b Ls xs D A Q σ0 hC hT hX κ tys σ Hm locs cells slots ls M hs
  exact lv_tableIn hC.1 hC.2.1 hd h1 h2 ho ht (k.2.2.2 p l e R s m args below meth c b Ls xs D A Q σ0 hC hT hX κ tys σ Hm locs cells slots ls M hs.tl)

/-- what is known of the locals may be forgotten -/
def jw_mask : List Bool → List (Option Value) → List (Option Value)
  | true :: bs, o :: L => o :: jw_mask bs L
  | false :: bs, _ :: L => none :: jw_mask bs L
  | _, L => L
theorem jw_mask_len : ∀ (bs : List Bool) (L : List (Option Value)), (jw_mask bs L).length = L.length
  | true :: bs, o :: L => by simp [jw_mask, jw_mask_len bs L]
  | false :: bs, o :: L => by simp [jw_mask, jw_mask_len bs L]
  | [], L => by simp [jw_mask]
  | true :: _, [] => by simp [jw_mask]
  | false :: _, [] => by simp [jw_mask]
theorem jw_mask_get : ∀ (bs : List Bool) (L : List (Option Value)) (i : Nat) (v : Value), (jw_mask bs L)[i]? = some (some v) → L[i]? = some (some v)
  | true :: bs, o :: L, 0, v => by simp [jw_mask]
  | true :: bs, o :: L, i + 1, v => by simpa [jw_mask] using jw_mask_get bs L i v
  | false :: bs, o :: L, 0, v => by simp [jw_mask]
  | false :: bs, o :: L, i + 1, v => by simpa [jw_mask] using jw_mask_get bs L i v
  | [], L, i, v => by simp [jw_mask]
  | true :: _, [], i, v => by simp [jw_mask]
  | false :: _, [], i, v => by simp [jw_mask]
theorem jw_forget (bs : List Bool) {L' : List (Option Value)} (hL : jw_mask bs L = L') (k : jw_E d u hi pc L' S h r hf) : jw_E d u hi pc L S h r hf := by
  subst hL
  refine ⟨k.1, k.2.1, k.2.2.1, ?_⟩
  intro p l e R s m args below meth c b Ls xs D A Q σ0 hC hT hX κ tys σ Hm locs cells slots ls M hs
  obtain ⟨M1, M2, M3, M4, M5⟩ := M
  exact k.2.2.2 p l e R s m args below meth c b Ls xs D A Q σ0 hC hT hX κ tys σ Hm locs cells slots ls ⟨M1, M2, M3, M4, M5.1, M5.2.1, by rw [jw_mask_len]; exact M5.2.2.1, fun i v hv => M5.2.2.2 i v (jw_mask_get bs L i v hv)⟩ hs

theorem jw_iret {x : Int32} {ty : FieldType} (hd : decode u.2.1 pc = .ok (.ireturn, 1)) (hr : u.2.2.2.2.1 = some ty) (hn : narrow ty (.int x) = .int x) : jw_E d u hi pc L [.int x] h (.inl (some (.int x))) h := by
  refine ⟨Nat.le_refl _, Nat.le_refl _, Nat.le_refl _, ?_⟩
  intro p l e R s m args below meth c b Ls xs D A Q σ0 hC hT hX κ tys σ Hm locs cells slots ls M hs
  exact hT κ tys σ Hm locs cells slots ls pc _ L [.int x] M hs hd (Or.inl ⟨rfl, x, rfl, rfl⟩) (Or.inl ⟨x, ty, hr, rfl, hn⟩)

theorem jw_lret {x : Int64} (hd : decode u.2.1 pc = .ok (.lreturn, 1)) (hr : u.2.2.2.2.1 = some .long) : jw_E d u hi pc L [.long x] h (.inl (some (.long x))) h := by
  refine ⟨Nat.le_refl _, Nat.le_refl _, Nat.le_refl _, ?_⟩
  intro p l e R s m args below meth c b Ls xs D A Q σ0 hC hT hX κ tys σ Hm locs cells slots ls M hs
  exact hT κ tys σ Hm locs cells slots ls pc _ L [.long x] M hs hd (Or.inr (Or.inl ⟨rfl, x, rfl, rfl⟩)) (Or.inr (Or.inl ⟨x, hr, rfl⟩))

theorem jw_aret {x : Option Nat} {ty : FieldType} (hd : decode u.2.1 pc = .ok (.areturn, 1)) (hr : u.2.2.2.2.1 = some ty) (hn : jw_isR ty = true) : jw_E d u hi pc L [va_rf x] h (.inl (some (va_rf x))) h := by
  refine ⟨Nat.le_refl _, Nat.le_refl _, Nat.le_refl _, ?_⟩
  intro p l e R s m args below meth c b Ls xs D A Q σ0 hC hT hX κ tys σ Hm locs cells slots ls M hs
  exact hT κ tys σ Hm locs cells slots ls pc _ L [va_rf x] M hs hd (Or.inr (Or.inr (Or.inl ⟨rfl, x, rfl, rfl⟩))) (Or.inr (Or.inr (Or.inl ⟨x, ty, hr, hn, rfl⟩)))

theorem jw_vret  (hd : decode u.2.1 pc = .ok (.return_, 1)) (hr : u.2.2.2.2.1 = none) : jw_E d u hi pc L [] h (.inl none) h := by
  refine ⟨Nat.le_refl _, Nat.le_refl _, Nat.le_refl _, ?_⟩
  intro p l e R s m args below meth c b Ls xs D A Q σ0 hC hT hX κ tys σ Hm locs cells slots ls M hs
  exact hT κ tys σ Hm locs cells slots ls pc _ L [] M hs hd (Or.inr (Or.inr (Or.inr ⟨rfl, rfl, rfl⟩))) (Or.inr (Or.inr (Or.inr (Or.inl ⟨hr, rfl⟩))))

theorem jw_sld {Ls0 : Nat} {xs0 : Nat → Int32} {x v : Int32} (hu : u.2.2.2.2.2.2 = some (Ls0, xs0)) (hd : decode u.2.1 pc = .ok (.iaload, 1)) (hg : jw_xs Ls0 xs0 x = some v) (k : jw_E d u hi (pc + 1) L (.int v :: S) h r hf) : jw_E d u hi pc L (.int x :: .retAddr 0 :: S) h r hf := by
  refine ⟨k.1, k.2.1, k.2.2.1, ?_⟩
  intro p l e R s m args below meth c b Ls xs D A Q σ0 hC hT hX κ tys σ Hm locs cells slots ls M hs
  obtain ⟨e1, e2⟩ := hC.2.2.2.2.2.2.2.2.2.2.2.2.2.2 _ hu
  have e1' : Ls0 = Ls := e1.symm
  have e2' : xs0 = xs := e2.symm
  subst e1'
  subst e2'
  have hZ := hC.2.2.2.2.2.2.1
  have kk := k.2.2.2 p l e R s m args below meth c b Ls0 xs0 D A Q σ0 hC hT hX κ tys σ Hm locs cells slots ls M (jw_okS.cons jw_ok_int hs.tl.tl)
  by_cases hin : x < 0 ∨ Ls0 ≤ x.toNatClampNeg
  · simp only [jw_xs, if_pos hin] at hg
    cases hg
  · simp only [jw_xs, if_neg hin] at hg
    have hv : xs0 x.toNatClampNeg = v := Option.some.inj hg
    rw [← hv] at kk
    exact va_sld hC.1 hC.2.1 hZ.1 hZ.2.1 hZ.2.2.1 M.2.1 hin hd kk
theorem jw_slen {Ls0 : Nat} {xs0 : Nat → Int32} (hu : u.2.2.2.2.2.2 = some (Ls0, xs0)) (hd : decode u.2.1 pc = .ok (.arraylength, 1)) (k : jw_E d u hi (pc + 1) L (.int (Int32.ofNat Ls0) :: S) h r hf) : jw_E d u hi pc L (.retAddr 0 :: S) h r hf := by
  refine ⟨k.1, k.2.1, k.2.2.1, ?_⟩
  intro p l e R s m args below meth c b Ls xs D A Q σ0 hC hT hX κ tys σ Hm locs cells slots ls M hs
  obtain ⟨e1, e2⟩ := hC.2.2.2.2.2.2.2.2.2.2.2.2.2.2 _ hu
  have e1' : Ls0 = Ls := e1.symm
  subst e1'
  have hZ := hC.2.2.2.2.2.2.1
  have kk := k.2.2.2 p l e R s m args below meth c b Ls0 xs D A Q σ0 hC hT hX κ tys σ Hm locs cells slots ls M (jw_okS.cons jw_ok_int hs.tl)
  exact va_slen hC.1 hC.2.1 hZ.1 hZ.2.1 hZ.2.2.1 M.2.1 hd kk
theorem jw_throw {E : String} (ht : jw_th u pc E) (h8 : 8 ≤ d) (hcat : (S.map fun v => v.category).sum ≤ 8) : jw_E d u hi pc L S h (.inr E) (jw_thw h) := by
  refine ⟨Nat.le_refl _, Nat.le_succ _, Nat.le_add_right _ _, ?_⟩
  intro p l e R s m args below meth c b Ls xs D A Q σ0 hC hT hX κ tys σ Hm locs cells slots ls M hs
  exact hX κ tys σ Hm locs cells slots ls pc L S h E M rfl rfl ht h8 hcat

end JW
