/-! the reference: a script played line by line -/
def pyQpp : Nat → Nat → Prop := fun k f => pyQwo k f ∨ pyQtn k f
set_option maxHeartbeats 8000000 in
theorem n_playLines_b81 {s : List Int} {T : pxTx} {L : List (Int × List Int)} {h0 : jw_H} {X : Int × Int × pxFh × pxSto} {Q : Int32 → jw_H → Prop} (A : pyLs s 0 L) (ne : L ≠ []) (len : L.length ≤ 100) (hE : ∀ h1 r, pyV pyQpp h0 h1 → 1 ≤ r → r ≤ 10 → X.2.1 = r → pxW (g_X12_playLines_b115 h1 587 (pxJ r)) Q) (hZ : ∀ h1, pyV pyQpp h0 h1 → X.2.1 = 0 → pyWz h1 s T X → pxW (g_X12_playLines_b115 h1 587 (pxJ 0)) Q) : ∀ (d N : Nat) (h : jw_H) (m : Nat) (came tk tn : Int) (G : Nat → pxFg) (F : pxFh) (S : pxSto), 400 - came < d → d < N → pyV pyQpp h0 h → pyWb h s T tk tn F S → pxM h 587 73 = came → 0 ≤ came → came ≤ 400 → pyRu h L G → pxM h 587 71 = 0 → tk < T.1.length → X = pxBLoop s L T m 0 false false came G (pxBNext T (0, 0, tk, tn, false, [], []), F, S, false) → (400 - came) + (T.1.length - (tn + 1)) < m →
    pxW (f_X12_playLines_b81 N h 587 (pxJ 0)) Q := by
  intro d
  induction d with
  | zero =>
    intro N h m came tk tn G F S hm hN V0 W e73 c0 c1 Ru e71 lt eX fu
    omega
  | succ d ih =>
    intro N h m came tk tn G F S hm hN V0 W e73 c0 c1 Ru e71 lt eX fu
    obtain ⟨N, rfl, hN⟩ := px_fu hN
    have H := W.1
    have l40 := W.2.2.1.2.1
    have e65 := W.2.2.2.2.2.2.1
    have e66 := W.2.2.2.2.2.2.2.1
    have tk0 := W.2.2.2.2.2.2.2.2.2.2.1.1
    rw [u_X12_playLines_b81]
    unfold g_X12_playLines_b81
    rw [pyN_gI H, px_bs, e66, pyN_gI H, px_bs, e65, if_neg (show ¬ (pxJ (T.1.length : Int) ≤ pxJ tk) from fun z => by have := (pxJ_le (a := (T.1.length : Int)) (b := tk) (by omega) (by omega) (by omega) (by omega)).mp z; omega), if_pos (show pxJ 0 = 0 from rfl), pyN_gI H, px_bs, e71, if_pos (show pxJ 0 = 0 from rfl), pyN_rc H, px_bs]
    refine pxW_b2 (n_takeNext W c0 lt) fun _ h1 q => ?_
    obtain ⟨V1, W1⟩ := q
    have H1 := V1.s H
    have V01 : pyV pyQpp h0 h1 := V0.trans (V1.mono (fun k f z => Or.inr z))
    have Wo : pyWo h1 s T L came G (pxBNext T (0, 0, tk, tn, false, [], []), F, S, false) := ⟨W1, by rw [V1.m (by unfold pyQtn; omega)]; exact e73, c0, c1, Ru.keep V1 (fun k f z => by unfold pyQru at z; unfold pyQtn; omega), by rw [V1.m (by unfold pyQtn; omega)]; exact e71⟩
    rw [pyN_rc H1, px_bs]
    refine pxW_b2 (n_workLine A ne len Wo rfl eX fu) fun v h2 q => ?_
    obtain ⟨V2, O⟩ := q
    have V02 : pyV pyQpp h0 h2 := V01.trans (V2.mono (fun k f z => Or.inl z))
    have H2 := V2.s H1
    obtain ⟨N, rfl⟩ : ∃ N', N = N' + 1 := ⟨N - 1, by omega⟩
    rcases O with ⟨r, rfl, r1, r10, eXr⟩ | ⟨rfl, f71, x0, Z⟩ | ⟨rfl, f71, m', came', G', F', S', tk', tn', cm, lt', eX', fu', W', e73', c0', c1', Ru'⟩
    · have fin := hE h2 r V02 r1 r10 eXr
      rw [u_X12_playLines_b81]
      unfold g_X12_playLines_b81
      rw [pyN_gI H2, px_bs, pyN_gI H2, px_bs]
      by_cases y : pxJ (pxM h2 587 65) ≤ pxJ (pxM h2 587 66)
      · rw [if_pos y]; exact fin
      · rw [if_neg y, if_neg (show ¬ (pxJ r = 0) from py32 (a := r) (b := 0) (by omega) (by omega) (by omega) (by omega) (by omega))]
        exact fin
    · have fin := hZ h2 V02 x0 Z
      rw [u_X12_playLines_b81]
      unfold g_X12_playLines_b81
      rw [pyN_gI H2, px_bs, pyN_gI H2, px_bs]
      by_cases y : pxJ (pxM h2 587 65) ≤ pxJ (pxM h2 587 66)
      · rw [if_pos y]; exact fin
      · rw [if_neg y, if_pos (show pxJ 0 = 0 from rfl), pyN_gI H2, px_bs]
        rcases f71 with f71 | ⟨f71, f66, f65⟩
        · rw [f71, if_neg (show ¬ (pxJ 1 = 0) by decide)]
          exact fin
        · rw [f66, f65] at y
          exact absurd (Int32.le_refl _) y
    · exact ih (N + 1) h2 m' came' tk' tn' G' F' S' (by omega) (by omega) V02 W' e73' c0' c1' Ru' f71 lt' eX' fu'
theorem n_playLines_b45 {h0 : jw_H} {Q : Int32 → jw_H → Prop} (hQ : ∀ h1, pyS h1 → pyV (fun k _ => k = 614 ∨ k = 615) h0 h1 → (∀ j : Int, 0 ≤ j → j < 60 → pxM h1 614 j.toNat = 0 ∧ pxM h1 615 j.toNat = 0) → pxW (jw_b2 (f_X12_save h1 587) fun w4 h3 => (jw_rc h3 12 (some 587)).bind fun a5 => jw_b2 (f_X12_emptyFiles h3 a5) fun w7 h6 => f_X12_playLines_b81 jw_FU h6 587 (0 : Int32)) Q) : ∀ (d N : Nat) (h : jw_H) (k : Int), k + d = 60 → d < N → 0 ≤ k → pyS h → pyV (fun k _ => k = 614 ∨ k = 615) h0 h → (∀ j : Int, 0 ≤ j → j < k → pxM h 614 j.toNat = 0 ∧ pxM h 615 j.toNat = 0) →
    pxW (f_X12_playLines_b45 N h 587 (pxJ k)) Q := by
  intro d
  induction d with
  | zero =>
    intro N h k hd hN k0 H V C
    obtain ⟨N, rfl, -⟩ := px_fu hN
    rw [u_X12_playLines_b45]
    unfold g_X12_playLines_b45
    rw [show k = 60 by omega] at C ⊢
    rw [if_pos (show (60 : Int32) ≤ pxJ 60 by decide), pyN_rc H, px_bs]
    exact hQ h H V C
  | succ d ih =>
    intro N h k hd hN k0 H V C
    obtain ⟨N, rfl, hN⟩ := px_fu hN
    rw [u_X12_playLines_b45]
    unfold g_X12_playLines_b45
    rw [if_neg (show ¬ ((60 : Int32) ≤ pxJ k) from fun z => by have := (pxJ_le (a := 60) (b := k) (by omega) (by omega) (by omega) (by omega)).mp z; omega), pyN_g74 H, px_bs, pyNb0, pyN_s614 H k0 (by omega), px_bs]
    have H1 : pyS (jw_setI h 614 k.toNat (pxJ 0)) := H
    rw [pyN_g75 H1, px_bs, show (0 : Int32) = pxJ 0 from rfl, pyN_s615 H1 k0 (by omega), px_bs, show pxJ k + (1 : Int32) = pxJ (k + 1) from pxJ_add _ 1]
    refine ih N (jw_setI (jw_setI h 614 k.toNat (pxJ 0)) 615 k.toNat (pxJ 0)) (k + 1) (by omega) (by omega) (by omega) H1 ((V.set (Or.inl rfl)).set (Or.inr rfl)) (fun j j0 j1 => ?_)
    by_cases e : j = k
    · rw [e]
      exact ⟨by rw [pxM_ne (by omega), pxM_eq (by omega) (by omega)], by rw [pxM_eq (by omega) (by omega)]⟩
    · rw [pxM_ne (by omega), pxM_ne (by omega), pxM_ne (by omega), pxM_ne (by omega)]
      exact C j j0 (by omega)
def pyQpl : Nat → Nat → Prop := fun k f => pyQpp k f ∨ pyQem k f ∨ pyQsv k f ∨ pyQcb k f ∨ pyQbn k f ∨ pyQnd k f ∨ k = 614 ∨ k = 615 ∨ (k = 587 ∧ (f = 18 ∨ f = 63 ∨ f = 13 ∨ f = 65 ∨ f = 66 ∨ f = 69 ∨ f = 71 ∨ f = 73))
/-- what a play line by line comes to -/
def pyPE (s : List Int) (T : pxTx) (D : List (Int × pxSn)) (call : Int) (R : Int × Int × pxTx × pxSto) (v : Int32) (h' : jw_H) : Prop :=
  v = pxJ R.1 ∧ pyX h' R.2.2.1 ∧ pyY h' R.2.2.2 ∧ pyDI h' (if R.2.1 = 0 then pxPush D (call, pxSnap T) else D) ∧ pxM h' 587 18 = R.2.1 ∧ pxInv R.2.2.1 ∧ T.2.2.2 ≤ R.2.2.1.2.2.2 ∧ R.2.2.1.2.2.2 ≤ T.2.2.2 + 40 ∧ -1 ≤ R.1 ∧ R.1 ≤ 400
theorem pyIds_nd {T : pxTx} (I : pxInv T) : (pxIds T.1).Nodup ∧ (∀ a ∈ pxIds T.1, 0 ≤ a ∧ a < T.2.2.2) ∧ ∀ k : Int, 0 ≤ k → k < 5 → T.2.1 k = -1 ∨ T.2.1 k ∈ pxIds T.1 :=
  ⟨I.2.2.2.2.2.2.2.1, I.2.2.2.2.2.2.1, I.2.2.2.2.2.2.2.2⟩
set_option maxHeartbeats 8000000 in
theorem n_playLines {c : Int} {h : jw_H} {s : List Int} {L : List (Int × List Int)} {T : pxTx} {S : pxSto} {D : List (Int × pxSn)} (H : pyS h) (G : pyG h s) (X : pyX h T) (Y : pyY h S) (I : pxInv T) (R : pyDI h D) (e63 : pxM h 587 63 = c) (c0 : -1 ≤ c) (c1 : c ≤ 2000000000) (nb : T.2.2.2 ≤ 2000000) (A : pyLs s 0 L) (ne : L ≠ []) (len : L.length ≤ 100) :
    pxW (f_X12_playLines h 587) fun v h' => pyV pyQpl h h' ∧ pxM h' 587 63 = c + 1 ∧ pyPE s T D (c + 1) (pxBPlay s L T S) v h' := by
  have l40 := X.1.2.1
  unfold f_X12_playLines
  rw [pyN_gI H, px_bs, e63, show pxJ c + (1 : Int32) = pxJ (c + 1) from pxJ_add _ 1, pyN_pI H, px_bs]
  have Va : pyV (fun k f => k = 587 ∧ f = 63) h (jw_setI h 587 63 (pxJ (c + 1))) := pyV.rfl.set ⟨rfl, rfl⟩
  have a63 : pxM (jw_setI h 587 63 (pxJ (c + 1))) 587 63 = c + 1 := by rw [pxM_eq (by omega) (by omega)]
  generalize jw_setI h 587 63 (pxJ (c + 1)) = ha at *
  have Ha := Va.s H
  rw [show (0 : Int32) = pxJ 0 from rfl, pyN_pI Ha, px_bs]
  have Vb : pyV (fun k f => k = 587 ∧ f = 73) ha (jw_setI ha 587 73 (pxJ 0)) := pyV.rfl.set ⟨rfl, rfl⟩
  have b73 : pxM (jw_setI ha 587 73 (pxJ 0)) 587 73 = 0 := by rw [pxM_eq (by omega) (by omega)]
  generalize jw_setI ha 587 73 (pxJ 0) = hb at *
  have Hb := Vb.s Ha
  rw [pyN_gI Hb, px_bs, Vb.m (by omega), Va.m (by omega), X.1.1, pyN_pI Hb, px_bs]
  have Vc : pyV (fun k f => k = 587 ∧ f = 65) hb (jw_setI hb 587 65 (pxJ (T.1.length : Int))) := pyV.rfl.set ⟨rfl, rfl⟩
  have c65 : pxM (jw_setI hb 587 65 (pxJ (T.1.length : Int))) 587 65 = T.1.length := by rw [pxM_eq (by omega) (by omega)]
  generalize jw_setI hb 587 65 (pxJ (T.1.length : Int)) = hc at *
  have Hc := Vc.s Hb
  rw [pyN_pI Hc, px_bs]
  have Vd : pyV (fun k f => k = 587 ∧ f = 66) hc (jw_setI hc 587 66 (pxJ 0)) := pyV.rfl.set ⟨rfl, rfl⟩
  have d66 : pxM (jw_setI hc 587 66 (pxJ 0)) 587 66 = 0 := by rw [pxM_eq (by omega) (by omega)]
  generalize jw_setI hc 587 66 (pxJ 0) = hd at *
  have Hd := Vd.s Hc
  rw [pyN_pI Hd, px_bs]
  have Ve : pyV (fun k f => k = 587 ∧ f = 13) hd (jw_setI hd 587 13 (pxJ 0)) := pyV.rfl.set ⟨rfl, rfl⟩
  have e13 : pxM (jw_setI hd 587 13 (pxJ 0)) 587 13 = 0 := by rw [pxM_eq (by omega) (by omega)]
  generalize jw_setI hd 587 13 (pxJ 0) = he at *
  have He := Ve.s Hd
  rw [pyN_pB He 71 (pxJ 0) (Or.inl rfl), px_bs]
  have Vf : pyV (fun k f => k = 587 ∧ f = 71) he (jw_setI he 587 71 (pxJ 0)) := pyV.rfl.set ⟨rfl, rfl⟩
  have f71 : pxM (jw_setI he 587 71 (pxJ 0)) 587 71 = 0 := by rw [pxM_eq (by omega) (by omega)]
  generalize jw_setI he 587 71 (pxJ 0) = hf at *
  have Hf := Vf.s He
  rw [pyN_pI Hf, px_bs]
  have Vg : pyV (fun k f => k = 587 ∧ f = 69) hf (jw_setI hf 587 69 (pxJ 0)) := pyV.rfl.set ⟨rfl, rfl⟩
  have g69 : pxM (jw_setI hf 587 69 (pxJ 0)) 587 69 = 0 := by rw [pxM_eq (by omega) (by omega)]
  generalize jw_setI hf 587 69 (pxJ 0) = hg at *
  have Hg := Vg.s Hf
  have Vag : pyV (fun k f => k = 587 ∧ (f = 63 ∨ f = 73 ∨ f = 65 ∨ f = 66 ∨ f = 13 ∨ f = 71 ∨ f = 69)) h hg := ((((((Va.mono (fun k f z => by omega)).trans (Vb.mono (fun k f z => by omega))).trans (Vc.mono (fun k f z => by omega))).trans (Vd.mono (fun k f z => by omega))).trans (Ve.mono (fun k f z => by omega))).trans (Vf.mono (fun k f z => by omega))).trans (Vg.mono (fun k f z => by omega))
  have k63 : pxM hg 587 63 = c + 1 := by rw [Vg.m (by omega), Vf.m (by omega), Ve.m (by omega), Vd.m (by omega), Vc.m (by omega), Vb.m (by omega)]; exact a63
  have k73 : pxM hg 587 73 = 0 := by rw [Vg.m (by omega), Vf.m (by omega), Ve.m (by omega), Vd.m (by omega), Vc.m (by omega)]; exact b73
  have k65 : pxM hg 587 65 = T.1.length := by rw [Vg.m (by omega), Vf.m (by omega), Ve.m (by omega), Vd.m (by omega)]; exact c65
  have k66 : pxM hg 587 66 = 0 := by rw [Vg.m (by omega), Vf.m (by omega), Ve.m (by omega)]; exact d66
  have k13 : pxM hg 587 13 = 0 := by rw [Vg.m (by omega), Vf.m (by omega)]; exact e13
  have k71 : pxM hg 587 71 = 0 := by rw [Vg.m (by omega)]; exact f71
  clear Va Vb Vc Vd Ve Vf Vg
  refine n_playLines_b45 (h0 := hg) (fun h1 H1 V1 C1 => ?_) 60 jw_FU hg 0 (by omega) (by unfold jw_FU; omega) (by omega) Hg pyV.rfl (fun j j0 j1 => by omega)
  have V01 : pyV (fun k f => k = 614 ∨ k = 615 ∨ (k = 587 ∧ (f = 63 ∨ f = 73 ∨ f = 65 ∨ f = 66 ∨ f = 13 ∨ f = 71 ∨ f = 69))) h h1 := (Vag.mono (fun k f z => Or.inr (Or.inr z))).trans (V1.mono (fun k f z => by omega))
  have X1 : pyX h1 T := X.keep V01 (fun k f z => by omega)
  have Y1 : pyY h1 S := Y.keep V01 (fun k f z => by omega)
  have G1 : pyG h1 s := G.keep V01 (by omega) (fun f _ => by omega)
  refine pxW_b2 (n_save H1) fun _ h2 q => ?_
  obtain ⟨V2, Z2⟩ := q
  have H2 := V2.s H1
  rw [pyN_rc H2, px_bs]
  refine pxW_b2 (n_emptyFiles H2 (G1.keep V2 (by unfold pyQsv; omega) (fun f _ => by unfold pyQsv; omega)) (Y1.keep V2 (fun k f z => by unfold pyQsv; omega)) A ne len) fun _ h3 q => ?_
  obtain ⟨V3, Y3⟩ := q
  have H3 := V3.s H2
  have V13 : pyV (fun k f => pyQsv k f ∨ pyQem k f) h1 h3 := (V2.mono (fun k f z => Or.inl z)).trans (V3.mono (fun k f z => Or.inr z))
  have Z3 : pySv h1 h3 := Z2.keep V3 (fun k f z => by unfold pyQsv at z; unfold pyQem pyQp pyQk; omega)
  have G3 : pyG h3 s := G1.keep V13 (by unfold pyQsv pyQem pyQp pyQk; omega) (fun f _ => by unfold pyQsv pyQem pyQp pyQk; omega)
  have X3 : pyX h3 T := X1.keep V13 (fun k f z => by unfold pyQsv pyQem pyQp pyQk; omega)
  have t3 : ∀ f, (f = 63 ∨ f = 73 ∨ f = 65 ∨ f = 66 ∨ f = 13 ∨ f = 71 ∨ f = 69) → pxM h3 587 f = pxM hg 587 f := fun f z => by rw [V13.m (by unfold pyQsv pyQem pyQp pyQk; omega), V1.m (by omega)]
  obtain ⟨nd, bd, mm⟩ := pyIds_nd I
  have nx0 : 0 ≤ T.2.2.2 := I.2.2.2.2.2.1
  have M3 : pyMk h3 T.2.1 T.2.2.2 (pxIds T.1) := ⟨nd, bd, fun k k0 k5 => by
    rw [X3.2.1 k k0 k5]
    rcases mm k k0 k5 with z | z
    · rw [z]
      exact ⟨by omega, by rw [if_neg (fun y => by have := bd _ y; omega)]⟩
    · exact ⟨(bd _ z).2, by rw [if_pos z]⟩⟩
  have Wb3 : pyWb h3 s T 0 0 ([], T.2.1, T.2.2.2) (pxBClr s (pxFl L 0) S) := ⟨H3, G3, X3.1, Y3, ⟨by rw [t3 13 (by omega), k13]; rfl, by show 0 ≤ 40; omega, pxOk_nil, fun x x0 x1 => by
    have : x ≤ 0 := x1
    omega⟩, M3, by rw [t3 65 (by omega), k65], by rw [t3 66 (by omega), k66], by rw [t3 69 (by omega), g69], X3.2.2.2, ⟨by omega, by omega⟩, ⟨by omega, by omega⟩, ⟨nx0, Int.le_refl _⟩, by show T.2.2.2 ≤ T.2.2.2 + ((0 : Nat) : Int); omega, nb⟩
  have Ru3 : pyRu h3 L pxBG0 := by
    intro k e he
    have inc := pyFl_inc L 0 0 A
    have m : ((pxFl L 0).map Prod.fst)[k]? = some e.1 := by rw [List.getElem?_map, he]; rfl
    have b := inc.at m
    have l60 := G.2.1.1
    obtain ⟨y1, y2⟩ := C1 e.1 b.1 (by omega)
    refine ⟨?_, fun z => absurd z (by show ¬ (1 : Int) ≤ 0; decide), ?_, fun z => by cases z⟩
    · rw [V13.m (by unfold pyQsv pyQem pyQp pyQk; omega)]; exact y1
    · rw [V13.m (by unfold pyQsv pyQem pyQp pyQk; omega)]; exact y2
  have VT : ∀ h4, pyV pyQpp h3 h4 → pyV pyQpl h h4 := fun h4 V4 => ((V01.mono (fun k f z => by omega)).trans (V13.mono (fun k f z => z.elim (fun y => Or.inr (Or.inr (Or.inl y))) (fun y => Or.inr (Or.inl y))))).trans (V4.mono (fun k f z => Or.inl z))
  have R4 : ∀ h4, pyV pyQpp h3 h4 → pyDI h4 D ∧ pySv h1 h4 ∧ pxM h4 587 63 = c + 1 := fun h4 V4 => ⟨((R.keep V01 (fun k f z => by unfold pyQnd at z; omega)).keep V13 (fun k f z => by unfold pyQnd at z; unfold pyQsv pyQem pyQp pyQk; omega)).keep V4 (fun k f z => by unfold pyQnd at z; unfold pyQpp pyQwo pyQwi pyQct pyQl pyQp pyQwa pyQru pyQj pyQp pyQpn pyQpt pyQpr pyQpt pyQtn; omega), Z3.keep V4 (fun k f z => by unfold pyQsv at z; unfold pyQpp pyQwo pyQwi pyQct pyQl pyQp pyQwa pyQru pyQj pyQp pyQpn pyQpt pyQpr pyQpt pyQtn; omega), by rw [V4.m (by unfold pyQpp pyQwo pyQwi pyQct pyQl pyQp pyQwa pyQru pyQj pyQp pyQpn pyQpt pyQpr pyQpt pyQtn; omega), t3 63 (by omega)]; exact k63⟩
  -- what it comes to
  have good : ∀ h4 (RR : Int × Int × pxFh × pxSto), pyV pyQpp h3 h4 → RR = pxBRun s L T S → RR.2.1 = 0 → pyWz h4 s T RR → pxW (g_X12_playLines_b115 h4 587 (pxJ 0)) fun v h' => pyV pyQpl h h' ∧ pxM h' 587 63 = c + 1 ∧ pyPE s T D (c + 1) (pxBPlay s L T S) v h' := by
    intro h4 RR V4 eR r0 Wz
    obtain ⟨H4, G4, L4, Y4, N4, M4, e17, B4, e73, q0, q1⟩ := Wz
    obtain ⟨D4, Z4, f63⟩ := R4 h4 V4
    unfold g_X12_playLines_b115
    rw [pyN_pI H4, px_bs, if_pos (show pxJ 0 ≤ (0 : Int32) by decide)]
    have V5 : pyV (fun k f => k = 587 ∧ f = 18) h4 (jw_setI h4 587 18 (pxJ 0)) := pyV.rfl.set ⟨rfl, rfl⟩
    have f18 : pxM (jw_setI h4 587 18 (pxJ 0)) 587 18 = 0 := by rw [pxM_eq (by omega) (by omega)]
    generalize jw_setI h4 587 18 (pxJ 0) = h5 at *
    have H5 := V5.s H4
    rw [pyN_rc H5, px_bs]
    refine pxW_b2 (n_becomeNew H5 (N4.keep V5 (fun k f z => by omega)) (M4.keep V5 (fun f _ => by omega)) (by rw [V5.m (by omega)]; exact e17)) fun _ h6 q => ?_
    obtain ⟨V6, X6⟩ := q
    have H6 := V6.s H5
    have V46 : pyV (fun k f => (k = 587 ∧ f = 18) ∨ pyQbn k f) h4 h6 := (V5.mono (fun k f z => Or.inl z)).trans (V6.mono (fun k f z => Or.inr z))
    rw [pyN_rc H6, px_bs]
    refine pxW_b2 (n_noteDeed (T := T) H6 X1.1 X1.2.1 X1.2.2.1 (Z4.keep V46 (fun k f z => by unfold pyQsv at z; unfold pyQbn; omega)) (D4.keep V46 (fun k f z => by unfold pyQnd at z; unfold pyQbn; omega))) fun _ h7 q => ?_
    obtain ⟨V7, D7⟩ := q
    have H7 := V7.s H6
    have g63 : pxM h6 587 63 = c + 1 := by rw [V46.m (by unfold pyQbn; omega)]; exact f63
    rw [g63] at D7
    have g73 : pxM h7 587 73 = RR.1 := by rw [V7.m (by unfold pyQnd; omega), V46.m (by unfold pyQbn; omega)]; exact e73
    rw [pyN_gI H7, px_bs, g73]
    have V47 : pyV (fun k f => (k = 587 ∧ f = 18) ∨ pyQbn k f ∨ pyQnd k f) h4 h7 := (V46.mono (fun k f z => z.elim Or.inl (fun y => Or.inr (Or.inl y)))).trans (V7.mono (fun k f z => Or.inr (Or.inr z)))
    have eP : pxBPlay s L T S = (RR.1, 0, (RR.2.2.1.1, RR.2.2.1.2.1, (RR.2.2.1.1.length : Int), RR.2.2.1.2.2), RR.2.2.2) := by
      unfold pxBPlay
      rw [← eR, if_neg (fun z => z r0)]
    rw [eP]
    have n40 := N4.2.1
    obtain ⟨b0, b1, b2⟩ := B4
    refine pxW_some.mpr ⟨(VT h4 V4).trans (V47.mono (fun k f z => by unfold pyQpl; rcases z with z | z | z <;> first | exact by omega | exact Or.inr (Or.inr (Or.inr (Or.inr (Or.inl z)))) | exact Or.inr (Or.inr (Or.inr (Or.inr (Or.inr (Or.inl z))))))), by rw [V7.m (by unfold pyQnd; omega)]; exact g63, rfl, X6.keep V7 (fun k f z => by unfold pyQnd; omega), Y4.keep V47 (fun k f z => by unfold pyQbn pyQnd; omega), ?_, ?_, ?_, ?_, ?_, by show (-1 : Int) ≤ RR.1; omega, by show RR.1 ≤ 400; omega⟩
    · rw [if_pos rfl]; exact D7
    · show pxM h7 587 18 = 0
      rw [V7.m (by unfold pyQnd; omega), V6.m (by unfold pyQbn; omega)]; exact f18
    · refine ⟨n40, N4.2.2.1, by show (0 : Int) ≤ (RR.2.2.1.1.length : Int); omega, Int.le_refl _, fun z => (by have z' : 1 ≤ RR.2.2.1.1.length := z; show (1 : Int) ≤ (RR.2.2.1.1.length : Int); omega), by show (0 : Int) ≤ RR.2.2.1.2.2; omega, M4.2.1, M4.1, fun k k0 k5 => ?_⟩
      have := (M4.2.2 k k0 k5).2
      show RR.2.2.1.2.1 k = -1 ∨ RR.2.2.1.2.1 k ∈ pxIds RR.2.2.1.1
      by_cases y : pxM h4 596 k.toNat ∈ pxIds RR.2.2.1.1
      · rw [if_pos y] at this; right; rw [this]; exact y
      · rw [if_neg y] at this; exact Or.inl this
    · exact b0.2
    · show RR.2.2.1.2.2 ≤ T.2.2.2 + 40
      omega
  have bad : ∀ h4 r, pyV pyQpp h3 h4 → 1 ≤ r → r ≤ 10 → (pxBRun s L T S).2.1 = r → pxW (g_X12_playLines_b115 h4 587 (pxJ r)) fun v h' => pyV pyQpl h h' ∧ pxM h' 587 63 = c + 1 ∧ pyPE s T D (c + 1) (pxBPlay s L T S) v h' := by
    intro h4 r V4 r1 r10 eR
    have H4 := V4.s H3
    obtain ⟨D4, Z4, f63⟩ := R4 h4 V4
    unfold g_X12_playLines_b115
    rw [pyN_pI H4, px_bs, if_neg (pyLe0 (z := r) (by omega) (by omega) (by omega))]
    have V5 : pyV (fun k f => k = 587 ∧ f = 18) h4 (jw_setI h4 587 18 (pxJ r)) := pyV.rfl.set ⟨rfl, rfl⟩
    have f18 : pxM (jw_setI h4 587 18 (pxJ r)) 587 18 = r := by rw [pxM_eq (by omega) (by omega)]
    generalize jw_setI h4 587 18 (pxJ r) = h5 at *
    have H5 := V5.s H4
    have Z5 : pySv h1 h5 := Z4.keep V5 (fun k f z => by unfold pyQsv at z; omega)
    rw [pyN_rc H5, px_bs]
    refine pxW_b2 (n_comeBack H5 Z5) fun _ h6 q => pxW_some.mpr ?_
    obtain ⟨V6, C6⟩ := q
    have V16 : pyV (fun _ _ => True) h1 h6 := (((V13.mono (fun _ _ _ => True.intro)).trans (V4.mono (fun _ _ _ => True.intro))).trans (V5.mono (fun _ _ _ => True.intro))).trans (V6.mono (fun _ _ _ => True.intro))
    obtain ⟨X6, Y6⟩ := C6.xy V16 X1 Y1
    have eP : pxBPlay s L T S = (-1, r, T, S) := by
      unfold pxBPlay
      rw [if_pos (show (pxBRun s L T S).2.1 ≠ 0 by omega), eR]
    rw [eP]
    have V46 : pyV (fun k f => (k = 587 ∧ f = 18) ∨ pyQcb k f) h4 h6 := (V5.mono (fun k f z => Or.inl z)).trans (V6.mono (fun k f z => Or.inr z))
    refine ⟨(VT h4 V4).trans (V46.mono (fun k f z => by unfold pyQpl; rcases z with z | z <;> first | exact by omega | exact Or.inr (Or.inr (Or.inr (Or.inl z))))), by rw [V46.m (by unfold pyQcb; omega)]; exact f63, rfl, X6, Y6, ?_, ?_, I, Int.le_refl _, by show T.2.2.2 ≤ T.2.2.2 + 40; omega, by show (-1 : Int) ≤ -1; omega, by show (-1 : Int) ≤ 400; omega⟩
    · rw [if_neg (show ¬ r = 0 by omega)]
      exact D4.keep V46 (fun k f z => by unfold pyQnd at z; unfold pyQcb; omega)
    · show pxM h6 587 18 = r
      rw [V6.m (by unfold pyQcb; omega)]; exact f18
  by_cases n0 : 0 < T.1.length
  · have eR : pxBRun s L T S = pxBLoop s L T 442 0 false false 0 pxBG0 (pxBNext T (0, 0, 0, 0, false, [], []), ([], T.2.1, T.2.2.2), pxBClr s (pxFl L 0) S, false) := by
      unfold pxBRun
      rw [if_pos n0]
      rfl
    exact n_playLines_b81 (h0 := h3) A ne len (fun h4 r V4 r1 r10 e => bad h4 r V4 r1 r10 e) (fun h4 V4 x0 Wz => good h4 _ V4 rfl x0 Wz) 402 jw_FU h3 442 0 0 0 pxBG0 _ _ (by omega) (by unfold jw_FU; omega) pyV.rfl Wb3 (by rw [t3 73 (by omega), k73]) (by omega) (by omega) Ru3 (by rw [t3 71 (by omega), k71]) (by omega) eR (by omega)
  · have eR : pxBRun s L T S = (0, 0, ([], T.2.1, T.2.2.2), pxBClr s (pxFl L 0) S) := by
      unfold pxBRun
      rw [if_neg n0]
    obtain ⟨N, eN⟩ : ∃ N', jw_FU = N' + 1 := ⟨99999, by unfold jw_FU; rfl⟩
    rw [eN, u_X12_playLines_b81]
    unfold g_X12_playLines_b81
    have l0 : T.1.length = 0 := by omega
    have e0 : pxIds T.1 = [] := by rw [List.length_eq_zero_iff.mp l0]; rfl
    rw [pyN_gI H3, px_bs, t3 66 (by omega), k66, pyN_gI H3, px_bs, t3 65 (by omega), k65, if_pos (show pxJ (T.1.length : Int) ≤ pxJ 0 by rw [l0]; decide), show (0 : Int32) = pxJ 0 from rfl]
    refine good h3 _ pyV.rfl rfl (by rw [eR]) ?_
    rw [eR]
    exact ⟨H3, G3, X3.1, Y3, Wb3.2.2.2.2.1, by rw [e0] at M3; exact M3, X3.2.2.2, Wb3.2.2.2.2.2.2.2.2.2.2.2.2, by rw [t3 73 (by omega), k73], by show (0 : Int) ≤ 0; omega, by show (0 : Int) ≤ 400; omega⟩
