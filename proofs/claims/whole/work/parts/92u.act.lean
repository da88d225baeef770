/-! the reference: an act is done -/
def pyDR (h : jw_H) (R : (Int × pxTx × pxSto) × Bool) (v : Int32) (h' : jw_H) : Prop := pyAR4 h R.1 v h' ∧ (R.1.1 = 0 → pxM h' 587 44 = pyB R.2)
theorem pyDo_fin {h h1 : jw_H} {r : Int × pxTx × pxSto} {R : (Int × pxTx × pxSto) × Bool} {v : Int32} {rep : Bool} (A : pyAR h r v h1) (e44 : pxM h 587 44 = pyB rep) (e : R = (r, rep)) : pyDR h R v h1 := by
  rw [e]
  exact pyAR.four A e44
theorem pyAct_cs {s : List Int} {p : Int} (ok : (pxAct s p).1 = true) (ns : ¬ (pxP s p = 58 ∨ pxP s p = 98 ∨ pxP s p = 84 ∨ pxP s p = 113 ∨ pxP s p = 78)) : pxP s p = 97 ∨ pxP s p = 105 ∨ pxP s p = 99 ∨ pxP s p = 100 ∨ pxP s p = 106 ∨ pxP s p = 118 ∨ pxP s p = 108 ∨ pxP s p = 112 ∨ pxP s p = 110 ∨ pxP s p = 61 ∨ pxP s p = 104 ∨ pxP s p = 72 ∨ pxP s p = 117 ∨ pxP s p = 101 ∨ pxP s p = 62 ∨ pxP s p = 60 ∨ pxP s p = 111 ∨ pxP s p = 79 ∨ pxP s p = 109 ∨ pxP s p = 116 ∨ pxP s p = 115 ∨ pxP s p = 122 ∨ pxP s p = 114 ∨ pxP s p = 119 ∨ pxP s p = 107 := by
  refine Decidable.byContradiction fun no => ?_
  simp only [not_or] at no ns
  obtain ⟨n97, n105, n99, n100, n106, n118, n108, n112, n110, n61, n104, n72, n117, n101, n62, n60, n111, n79, n109, n116, n115, n122, n114, n119, n107⟩ := no
  obtain ⟨z58, z98, z84, z113, z78⟩ := ns
  rw [pxAct, if_neg (by rintro (z | z | z) <;> contradiction), if_neg (by rintro (z | z | z | z | z | z | z | z | z | z | z | z) <;> contradiction), if_neg (by rintro (z | z | z | z | z) <;> contradiction), if_neg (by rintro (z | z) <;> contradiction), if_neg n107, if_neg (by rintro (z | z) <;> contradiction), if_neg z58, if_neg (by rintro (z | z) <;> contradiction), if_neg n115, if_neg n122] at ok
  cases ok
set_option maxHeartbeats 8000000 in
theorem n_act_97 {h : jw_H} {s : List Int} {p f l : Int} {T : pxTx} {S : pxSto} {rep : Bool} (H : pyS h) (G : pyG h s) (X : pyX h T) (Y : pyY h S) (I : pxInv T) (nb : T.2.2.2 ≤ 2000000000) (e42 : pxM h 587 42 = f) (e43 : pxM h 587 43 = l) (e44 : pxM h 587 44 = pyB rep) (rg : pxRgOk (pxP s p) f l T.1.length) (p0 : 0 ≤ p) (ok : (pxAct s p).1 = true) (c : pxP s p = 97) :
    pxW (f_X12_act h 587 (pxJ p)) fun v h' => pyDR h (pxDo s p f l T S rep) v h' := by
  have l60 := G.2.1.1
  have l40 := X.1.2.1
  have IS := Y.1
  have pl := (pxP_lt (s := s) (p := p) (by omega)).2
  have m := G.2.2 p p0 pl
  rw [← pxP_E p0 pl, c] at m
  rw [c] at rg
  unfold pxRgOk at rg
  have okR : (pxRowsE s 61 0 (p + 1)).1 = true := by
    unfold pxAct at ok
    rw [c] at ok
    exact ok
  have okT := pxTold_ok 61 61 (p + 1) okR (by omega) (by omega) (by omega)
  have e : pxDo s p f l T S rep = (pxDoT (pxSpBring false (l + 1) f l (pxTold s 61 (p + 1)) T) S, rep) := by unfold pxDo pxDo1; rw [c]; rfl
  unfold f_X12_act
  rw [pyN_g21 H, px_bs, pyN_a599 H p0 (by omega), px_bs, m]
  try simp (maxSteps := 4000000) (disch := first | assumption | omega | (simp only [pyS_I]; assumption)) only [pxL0, pxL1, pxL2, pxL3, pxL4, pxL5, pxL6, pxL7, pxL8, pxL9, pxL10, pxL11, pxL12, pxL13, pxL14, pxL15, pxL16, pxL17, pxL18, pxL19, pxL20, pxL21, pxL22, pxL23, pxL24, pxL25, pxL26, pxL27, pxL28, pxL29, pxL30, pxL31, pxL32, pxL33, pxL34, pxL35, pxL36, pxL37, pxL38, pxL39, pxL40, pxL41, pxL42, pxL43, pxL44, pxL45, pxL46, pxL47, pxL48, pxL49, pxL51, pxL57, pxL58, pxL59, pxL60, pxL61, pxL62, pxL63, pxL64, pxL65, pxL66, pxL67, pxL68, pxL69, pxL70, pxL71, pxL72, pxL73, pxL74, pxL75, pxL76, pxL77, pxL78, pxL79, pxL80, pxL81, pxL82, pxL83, pxL84, pxL85, pxL86, pxL87, pxL88, pxL89, pxL90, pxL91, pxL92, pxL93, pxL94, pxL95, pxL96, pxL97, pxL98, pxL99, pxL100, pxL101, pxL102, pxL103, pxL104, pxL105, pxL106, pxL107, pxL108, pxL109, pxL110, pxL111, pxL112, pxL113, pxL114, pxL115, pxL116, pxL117, pxL118, pxL119, pxL120, pxL121, pxL122, pxL123, pxL124, pxL125, pxL126, pxL200, pxL240, pxL287, pxL388, pxL400, pxL429, pxL431, pxL440, pxL1240, pxL1600, pxL1681, pxL12028, pxL13849, pxL14880, pxL25173, pxL26908, pxL49600, pxL65535, pxL65536, ↓reduceIte, reduceCtorEq, pxJ_add, pxJ_sub, pxJ_mul, pxJ_neg, pxD_lt_t, pxD_lt_f, pxD_le_t, pxD_le_f, pxD_eq_t, pxD_eq_f, pxJ_lt, pxJ_le, pxJ_eq, pxJ_div, px_b2, px_bs, px_rb0, px_rb1, pxW_some, Option.some.injEq, pxM_eq, pxM_ne, pyN_gI, pyN_pI, pyN_rc, pyN_g1, pyN_a588, pyN_s588, pyN_g3, pyN_a589, pyN_s589, pyN_g4, pyN_a590, pyN_s590, pyN_g5, pyN_a591, pyN_s591, pyN_g6, pyN_a592, pyN_s592, pyN_g7, pyN_a593, pyN_s593, pyN_g8, pyN_a594, pyN_s594, pyN_g9, pyN_a595, pyN_s595, pyN_g10, pyN_a596, pyN_s596, pyN_g11, pyN_a597, pyN_s597, pyN_g19, pyN_a598, pyN_s598, pyN_g21, pyN_a599, pyN_s599, pyN_g31, pyN_a600, pyN_s600, pyN_g32, pyN_a601, pyN_s601, pyN_g38, pyN_a602, pyN_s602, pyN_g39, pyN_a603, pyN_s603, pyN_g46, pyN_a604, pyN_s604, pyN_g47, pyN_a605, pyN_s605, pyN_g48, pyN_a606, pyN_s606, pyN_g49, pyN_a607, pyN_s607, pyN_g55, pyN_a608, pyN_s608, pyN_g56, pyN_a609, pyN_s609, pyN_g57, pyN_a610, pyN_s610, pyN_g58, pyN_a611, pyN_s611, pyN_g59, pyN_a612, pyN_s612, pyN_g60, pyN_a613, pyN_s613, pyN_g74, pyN_a614, pyN_s614, pyN_g75, pyN_a615, pyN_s615, pyN_g76, pyN_a616, pyN_s616, pyN_g78, pyN_a617, pyN_s617, pyN_g79, pyN_a618, pyN_s618, G.1, e43]
  exact pxW_b2 (n_append H G X I nb (b := l) (p := p + 1) (f := f) (l := l) (by omega) (by omega) (by omega) (by omega) okT) fun v h1 q => pxW_some.mpr (pyDo_fin (pyTR.a q Y) e44 e)
set_option maxHeartbeats 8000000 in
theorem n_act_105 {h : jw_H} {s : List Int} {p f l : Int} {T : pxTx} {S : pxSto} {rep : Bool} (H : pyS h) (G : pyG h s) (X : pyX h T) (Y : pyY h S) (I : pxInv T) (nb : T.2.2.2 ≤ 2000000000) (e42 : pxM h 587 42 = f) (e43 : pxM h 587 43 = l) (e44 : pxM h 587 44 = pyB rep) (rg : pxRgOk (pxP s p) f l T.1.length) (p0 : 0 ≤ p) (ok : (pxAct s p).1 = true) (c : pxP s p = 105) :
    pxW (f_X12_act h 587 (pxJ p)) fun v h' => pyDR h (pxDo s p f l T S rep) v h' := by
  have l60 := G.2.1.1
  have l40 := X.1.2.1
  have IS := Y.1
  have pl := (pxP_lt (s := s) (p := p) (by omega)).2
  have m := G.2.2 p p0 pl
  rw [← pxP_E p0 pl, c] at m
  rw [c] at rg
  unfold pxRgOk at rg
  have okR : (pxRowsE s 61 0 (p + 1)).1 = true := by
    unfold pxAct at ok
    rw [c] at ok
    exact ok
  have okT := pxTold_ok 61 61 (p + 1) okR (by omega) (by omega) (by omega)
  have e : pxDo s p f l T S rep = (pxDoT (pxSpBring false f f l (pxTold s 61 (p + 1)) T) S, rep) := by unfold pxDo pxDo1; rw [c]; rfl
  unfold f_X12_act
  rw [pyN_g21 H, px_bs, pyN_a599 H p0 (by omega), px_bs, m]
  try simp (maxSteps := 4000000) (disch := first | assumption | omega | (simp only [pyS_I]; assumption)) only [pxL0, pxL1, pxL2, pxL3, pxL4, pxL5, pxL6, pxL7, pxL8, pxL9, pxL10, pxL11, pxL12, pxL13, pxL14, pxL15, pxL16, pxL17, pxL18, pxL19, pxL20, pxL21, pxL22, pxL23, pxL24, pxL25, pxL26, pxL27, pxL28, pxL29, pxL30, pxL31, pxL32, pxL33, pxL34, pxL35, pxL36, pxL37, pxL38, pxL39, pxL40, pxL41, pxL42, pxL43, pxL44, pxL45, pxL46, pxL47, pxL48, pxL49, pxL51, pxL57, pxL58, pxL59, pxL60, pxL61, pxL62, pxL63, pxL64, pxL65, pxL66, pxL67, pxL68, pxL69, pxL70, pxL71, pxL72, pxL73, pxL74, pxL75, pxL76, pxL77, pxL78, pxL79, pxL80, pxL81, pxL82, pxL83, pxL84, pxL85, pxL86, pxL87, pxL88, pxL89, pxL90, pxL91, pxL92, pxL93, pxL94, pxL95, pxL96, pxL97, pxL98, pxL99, pxL100, pxL101, pxL102, pxL103, pxL104, pxL105, pxL106, pxL107, pxL108, pxL109, pxL110, pxL111, pxL112, pxL113, pxL114, pxL115, pxL116, pxL117, pxL118, pxL119, pxL120, pxL121, pxL122, pxL123, pxL124, pxL125, pxL126, pxL200, pxL240, pxL287, pxL388, pxL400, pxL429, pxL431, pxL440, pxL1240, pxL1600, pxL1681, pxL12028, pxL13849, pxL14880, pxL25173, pxL26908, pxL49600, pxL65535, pxL65536, ↓reduceIte, reduceCtorEq, pxJ_add, pxJ_sub, pxJ_mul, pxJ_neg, pxD_lt_t, pxD_lt_f, pxD_le_t, pxD_le_f, pxD_eq_t, pxD_eq_f, pxJ_lt, pxJ_le, pxJ_eq, pxJ_div, px_b2, px_bs, px_rb0, px_rb1, pxW_some, Option.some.injEq, pxM_eq, pxM_ne, pyN_gI, pyN_pI, pyN_rc, pyN_g1, pyN_a588, pyN_s588, pyN_g3, pyN_a589, pyN_s589, pyN_g4, pyN_a590, pyN_s590, pyN_g5, pyN_a591, pyN_s591, pyN_g6, pyN_a592, pyN_s592, pyN_g7, pyN_a593, pyN_s593, pyN_g8, pyN_a594, pyN_s594, pyN_g9, pyN_a595, pyN_s595, pyN_g10, pyN_a596, pyN_s596, pyN_g11, pyN_a597, pyN_s597, pyN_g19, pyN_a598, pyN_s598, pyN_g21, pyN_a599, pyN_s599, pyN_g31, pyN_a600, pyN_s600, pyN_g32, pyN_a601, pyN_s601, pyN_g38, pyN_a602, pyN_s602, pyN_g39, pyN_a603, pyN_s603, pyN_g46, pyN_a604, pyN_s604, pyN_g47, pyN_a605, pyN_s605, pyN_g48, pyN_a606, pyN_s606, pyN_g49, pyN_a607, pyN_s607, pyN_g55, pyN_a608, pyN_s608, pyN_g56, pyN_a609, pyN_s609, pyN_g57, pyN_a610, pyN_s610, pyN_g58, pyN_a611, pyN_s611, pyN_g59, pyN_a612, pyN_s612, pyN_g60, pyN_a613, pyN_s613, pyN_g74, pyN_a614, pyN_s614, pyN_g75, pyN_a615, pyN_s615, pyN_g76, pyN_a616, pyN_s616, pyN_g78, pyN_a617, pyN_s617, pyN_g79, pyN_a618, pyN_s618, G.1, e42]
  have B := n_append H G X I nb (b := f - 1) (p := p + 1) (f := f) (l := l) (by omega) (by omega) (by omega) (by omega) okT
  rw [show f - 1 + 1 = f by omega] at B
  exact pxW_b2 (B) fun v h1 q => pxW_some.mpr (pyDo_fin (pyTR.a q Y) e44 e)
set_option maxHeartbeats 8000000 in
theorem n_act_99 {h : jw_H} {s : List Int} {p f l : Int} {T : pxTx} {S : pxSto} {rep : Bool} (H : pyS h) (G : pyG h s) (X : pyX h T) (Y : pyY h S) (I : pxInv T) (nb : T.2.2.2 ≤ 2000000000) (e42 : pxM h 587 42 = f) (e43 : pxM h 587 43 = l) (e44 : pxM h 587 44 = pyB rep) (rg : pxRgOk (pxP s p) f l T.1.length) (p0 : 0 ≤ p) (ok : (pxAct s p).1 = true) (c : pxP s p = 99) :
    pxW (f_X12_act h 587 (pxJ p)) fun v h' => pyDR h (pxDo s p f l T S rep) v h' := by
  have l60 := G.2.1.1
  have l40 := X.1.2.1
  have IS := Y.1
  have pl := (pxP_lt (s := s) (p := p) (by omega)).2
  have m := G.2.2 p p0 pl
  rw [← pxP_E p0 pl, c] at m
  rw [c] at rg
  unfold pxRgOk at rg
  have okR : (pxRowsE s 61 0 (p + 1)).1 = true := by
    unfold pxAct at ok
    rw [c] at ok
    exact ok
  have okT := pxTold_ok 61 61 (p + 1) okR (by omega) (by omega) (by omega)
  have e : pxDo s p f l T S rep = (pxDoT (pxSpBring true f f l (pxTold s 61 (p + 1)) T) S, rep) := by unfold pxDo pxDo1; rw [c]; rfl
  unfold f_X12_act
  rw [pyN_g21 H, px_bs, pyN_a599 H p0 (by omega), px_bs, m]
  try simp (maxSteps := 4000000) (disch := first | assumption | omega | (simp only [pyS_I]; assumption)) only [pxL0, pxL1, pxL2, pxL3, pxL4, pxL5, pxL6, pxL7, pxL8, pxL9, pxL10, pxL11, pxL12, pxL13, pxL14, pxL15, pxL16, pxL17, pxL18, pxL19, pxL20, pxL21, pxL22, pxL23, pxL24, pxL25, pxL26, pxL27, pxL28, pxL29, pxL30, pxL31, pxL32, pxL33, pxL34, pxL35, pxL36, pxL37, pxL38, pxL39, pxL40, pxL41, pxL42, pxL43, pxL44, pxL45, pxL46, pxL47, pxL48, pxL49, pxL51, pxL57, pxL58, pxL59, pxL60, pxL61, pxL62, pxL63, pxL64, pxL65, pxL66, pxL67, pxL68, pxL69, pxL70, pxL71, pxL72, pxL73, pxL74, pxL75, pxL76, pxL77, pxL78, pxL79, pxL80, pxL81, pxL82, pxL83, pxL84, pxL85, pxL86, pxL87, pxL88, pxL89, pxL90, pxL91, pxL92, pxL93, pxL94, pxL95, pxL96, pxL97, pxL98, pxL99, pxL100, pxL101, pxL102, pxL103, pxL104, pxL105, pxL106, pxL107, pxL108, pxL109, pxL110, pxL111, pxL112, pxL113, pxL114, pxL115, pxL116, pxL117, pxL118, pxL119, pxL120, pxL121, pxL122, pxL123, pxL124, pxL125, pxL126, pxL200, pxL240, pxL287, pxL388, pxL400, pxL429, pxL431, pxL440, pxL1240, pxL1600, pxL1681, pxL12028, pxL13849, pxL14880, pxL25173, pxL26908, pxL49600, pxL65535, pxL65536, ↓reduceIte, reduceCtorEq, pxJ_add, pxJ_sub, pxJ_mul, pxJ_neg, pxD_lt_t, pxD_lt_f, pxD_le_t, pxD_le_f, pxD_eq_t, pxD_eq_f, pxJ_lt, pxJ_le, pxJ_eq, pxJ_div, px_b2, px_bs, px_rb0, px_rb1, pxW_some, Option.some.injEq, pxM_eq, pxM_ne, pyN_gI, pyN_pI, pyN_rc, pyN_g1, pyN_a588, pyN_s588, pyN_g3, pyN_a589, pyN_s589, pyN_g4, pyN_a590, pyN_s590, pyN_g5, pyN_a591, pyN_s591, pyN_g6, pyN_a592, pyN_s592, pyN_g7, pyN_a593, pyN_s593, pyN_g8, pyN_a594, pyN_s594, pyN_g9, pyN_a595, pyN_s595, pyN_g10, pyN_a596, pyN_s596, pyN_g11, pyN_a597, pyN_s597, pyN_g19, pyN_a598, pyN_s598, pyN_g21, pyN_a599, pyN_s599, pyN_g31, pyN_a600, pyN_s600, pyN_g32, pyN_a601, pyN_s601, pyN_g38, pyN_a602, pyN_s602, pyN_g39, pyN_a603, pyN_s603, pyN_g46, pyN_a604, pyN_s604, pyN_g47, pyN_a605, pyN_s605, pyN_g48, pyN_a606, pyN_s606, pyN_g49, pyN_a607, pyN_s607, pyN_g55, pyN_a608, pyN_s608, pyN_g56, pyN_a609, pyN_s609, pyN_g57, pyN_a610, pyN_s610, pyN_g58, pyN_a611, pyN_s611, pyN_g59, pyN_a612, pyN_s612, pyN_g60, pyN_a613, pyN_s613, pyN_g74, pyN_a614, pyN_s614, pyN_g75, pyN_a615, pyN_s615, pyN_g76, pyN_a616, pyN_s616, pyN_g78, pyN_a617, pyN_s617, pyN_g79, pyN_a618, pyN_s618, G.1]
  exact pxW_b2 (n_change H G X I nb (p := p + 1) e42 e43 (by omega) (by omega) (by omega) (by omega) (by omega) okT) fun v h1 q => pxW_some.mpr (pyDo_fin (pyTR.a q Y) e44 e)
set_option maxHeartbeats 8000000 in
theorem n_act_100 {h : jw_H} {s : List Int} {p f l : Int} {T : pxTx} {S : pxSto} {rep : Bool} (H : pyS h) (G : pyG h s) (X : pyX h T) (Y : pyY h S) (I : pxInv T) (nb : T.2.2.2 ≤ 2000000000) (e42 : pxM h 587 42 = f) (e43 : pxM h 587 43 = l) (e44 : pxM h 587 44 = pyB rep) (rg : pxRgOk (pxP s p) f l T.1.length) (p0 : 0 ≤ p) (ok : (pxAct s p).1 = true) (c : pxP s p = 100) :
    pxW (f_X12_act h 587 (pxJ p)) fun v h' => pyDR h (pxDo s p f l T S rep) v h' := by
  have l60 := G.2.1.1
  have l40 := X.1.2.1
  have IS := Y.1
  have pl := (pxP_lt (s := s) (p := p) (by omega)).2
  have m := G.2.2 p p0 pl
  rw [← pxP_E p0 pl, c] at m
  rw [c] at rg
  unfold pxRgOk at rg
  have e : pxDo s p f l T S rep = (pxDoT (0, pxSpDel f l T) S, rep) := by unfold pxDo pxDo1; rw [c]; rfl
  unfold f_X12_act
  rw [pyN_g21 H, px_bs, pyN_a599 H p0 (by omega), px_bs, m]
  try simp (maxSteps := 4000000) (disch := first | assumption | omega | (simp only [pyS_I]; assumption)) only [pxL0, pxL1, pxL2, pxL3, pxL4, pxL5, pxL6, pxL7, pxL8, pxL9, pxL10, pxL11, pxL12, pxL13, pxL14, pxL15, pxL16, pxL17, pxL18, pxL19, pxL20, pxL21, pxL22, pxL23, pxL24, pxL25, pxL26, pxL27, pxL28, pxL29, pxL30, pxL31, pxL32, pxL33, pxL34, pxL35, pxL36, pxL37, pxL38, pxL39, pxL40, pxL41, pxL42, pxL43, pxL44, pxL45, pxL46, pxL47, pxL48, pxL49, pxL51, pxL57, pxL58, pxL59, pxL60, pxL61, pxL62, pxL63, pxL64, pxL65, pxL66, pxL67, pxL68, pxL69, pxL70, pxL71, pxL72, pxL73, pxL74, pxL75, pxL76, pxL77, pxL78, pxL79, pxL80, pxL81, pxL82, pxL83, pxL84, pxL85, pxL86, pxL87, pxL88, pxL89, pxL90, pxL91, pxL92, pxL93, pxL94, pxL95, pxL96, pxL97, pxL98, pxL99, pxL100, pxL101, pxL102, pxL103, pxL104, pxL105, pxL106, pxL107, pxL108, pxL109, pxL110, pxL111, pxL112, pxL113, pxL114, pxL115, pxL116, pxL117, pxL118, pxL119, pxL120, pxL121, pxL122, pxL123, pxL124, pxL125, pxL126, pxL200, pxL240, pxL287, pxL388, pxL400, pxL429, pxL431, pxL440, pxL1240, pxL1600, pxL1681, pxL12028, pxL13849, pxL14880, pxL25173, pxL26908, pxL49600, pxL65535, pxL65536, ↓reduceIte, reduceCtorEq, pxJ_add, pxJ_sub, pxJ_mul, pxJ_neg, pxD_lt_t, pxD_lt_f, pxD_le_t, pxD_le_f, pxD_eq_t, pxD_eq_f, pxJ_lt, pxJ_le, pxJ_eq, pxJ_div, px_b2, px_bs, px_rb0, px_rb1, pxW_some, Option.some.injEq, pxM_eq, pxM_ne, pyN_gI, pyN_pI, pyN_rc, pyN_g1, pyN_a588, pyN_s588, pyN_g3, pyN_a589, pyN_s589, pyN_g4, pyN_a590, pyN_s590, pyN_g5, pyN_a591, pyN_s591, pyN_g6, pyN_a592, pyN_s592, pyN_g7, pyN_a593, pyN_s593, pyN_g8, pyN_a594, pyN_s594, pyN_g9, pyN_a595, pyN_s595, pyN_g10, pyN_a596, pyN_s596, pyN_g11, pyN_a597, pyN_s597, pyN_g19, pyN_a598, pyN_s598, pyN_g21, pyN_a599, pyN_s599, pyN_g31, pyN_a600, pyN_s600, pyN_g32, pyN_a601, pyN_s601, pyN_g38, pyN_a602, pyN_s602, pyN_g39, pyN_a603, pyN_s603, pyN_g46, pyN_a604, pyN_s604, pyN_g47, pyN_a605, pyN_s605, pyN_g48, pyN_a606, pyN_s606, pyN_g49, pyN_a607, pyN_s607, pyN_g55, pyN_a608, pyN_s608, pyN_g56, pyN_a609, pyN_s609, pyN_g57, pyN_a610, pyN_s610, pyN_g58, pyN_a611, pyN_s611, pyN_g59, pyN_a612, pyN_s612, pyN_g60, pyN_a613, pyN_s613, pyN_g74, pyN_a614, pyN_s614, pyN_g75, pyN_a615, pyN_s615, pyN_g76, pyN_a616, pyN_s616, pyN_g78, pyN_a617, pyN_s617, pyN_g79, pyN_a618, pyN_s618, G.1]
  exact pxW_b2 (n_delete H X e42 e43 (by omega) (by omega) (by omega)) fun v h1 q => pxW_some.mpr (pyDo_fin (pyTR.a q Y) e44 e)
set_option maxHeartbeats 8000000 in
theorem n_act_106 {h : jw_H} {s : List Int} {p f l : Int} {T : pxTx} {S : pxSto} {rep : Bool} (H : pyS h) (G : pyG h s) (X : pyX h T) (Y : pyY h S) (I : pxInv T) (nb : T.2.2.2 ≤ 2000000000) (e42 : pxM h 587 42 = f) (e43 : pxM h 587 43 = l) (e44 : pxM h 587 44 = pyB rep) (rg : pxRgOk (pxP s p) f l T.1.length) (p0 : 0 ≤ p) (ok : (pxAct s p).1 = true) (c : pxP s p = 106) :
    pxW (f_X12_act h 587 (pxJ p)) fun v h' => pyDR h (pxDo s p f l T S rep) v h' := by
  have l60 := G.2.1.1
  have l40 := X.1.2.1
  have IS := Y.1
  have pl := (pxP_lt (s := s) (p := p) (by omega)).2
  have m := G.2.2 p p0 pl
  rw [← pxP_E p0 pl, c] at m
  rw [c] at rg
  unfold pxRgOk at rg
  have e : pxDo s p f l T S rep = (pxDoT (pxSpJoin f l T) S, rep) := by unfold pxDo pxDo1; rw [c]; rfl
  unfold f_X12_act
  rw [pyN_g21 H, px_bs, pyN_a599 H p0 (by omega), px_bs, m]
  try simp (maxSteps := 4000000) (disch := first | assumption | omega | (simp only [pyS_I]; assumption)) only [pxL0, pxL1, pxL2, pxL3, pxL4, pxL5, pxL6, pxL7, pxL8, pxL9, pxL10, pxL11, pxL12, pxL13, pxL14, pxL15, pxL16, pxL17, pxL18, pxL19, pxL20, pxL21, pxL22, pxL23, pxL24, pxL25, pxL26, pxL27, pxL28, pxL29, pxL30, pxL31, pxL32, pxL33, pxL34, pxL35, pxL36, pxL37, pxL38, pxL39, pxL40, pxL41, pxL42, pxL43, pxL44, pxL45, pxL46, pxL47, pxL48, pxL49, pxL51, pxL57, pxL58, pxL59, pxL60, pxL61, pxL62, pxL63, pxL64, pxL65, pxL66, pxL67, pxL68, pxL69, pxL70, pxL71, pxL72, pxL73, pxL74, pxL75, pxL76, pxL77, pxL78, pxL79, pxL80, pxL81, pxL82, pxL83, pxL84, pxL85, pxL86, pxL87, pxL88, pxL89, pxL90, pxL91, pxL92, pxL93, pxL94, pxL95, pxL96, pxL97, pxL98, pxL99, pxL100, pxL101, pxL102, pxL103, pxL104, pxL105, pxL106, pxL107, pxL108, pxL109, pxL110, pxL111, pxL112, pxL113, pxL114, pxL115, pxL116, pxL117, pxL118, pxL119, pxL120, pxL121, pxL122, pxL123, pxL124, pxL125, pxL126, pxL200, pxL240, pxL287, pxL388, pxL400, pxL429, pxL431, pxL440, pxL1240, pxL1600, pxL1681, pxL12028, pxL13849, pxL14880, pxL25173, pxL26908, pxL49600, pxL65535, pxL65536, ↓reduceIte, reduceCtorEq, pxJ_add, pxJ_sub, pxJ_mul, pxJ_neg, pxD_lt_t, pxD_lt_f, pxD_le_t, pxD_le_f, pxD_eq_t, pxD_eq_f, pxJ_lt, pxJ_le, pxJ_eq, pxJ_div, px_b2, px_bs, px_rb0, px_rb1, pxW_some, Option.some.injEq, pxM_eq, pxM_ne, pyN_gI, pyN_pI, pyN_rc, pyN_g1, pyN_a588, pyN_s588, pyN_g3, pyN_a589, pyN_s589, pyN_g4, pyN_a590, pyN_s590, pyN_g5, pyN_a591, pyN_s591, pyN_g6, pyN_a592, pyN_s592, pyN_g7, pyN_a593, pyN_s593, pyN_g8, pyN_a594, pyN_s594, pyN_g9, pyN_a595, pyN_s595, pyN_g10, pyN_a596, pyN_s596, pyN_g11, pyN_a597, pyN_s597, pyN_g19, pyN_a598, pyN_s598, pyN_g21, pyN_a599, pyN_s599, pyN_g31, pyN_a600, pyN_s600, pyN_g32, pyN_a601, pyN_s601, pyN_g38, pyN_a602, pyN_s602, pyN_g39, pyN_a603, pyN_s603, pyN_g46, pyN_a604, pyN_s604, pyN_g47, pyN_a605, pyN_s605, pyN_g48, pyN_a606, pyN_s606, pyN_g49, pyN_a607, pyN_s607, pyN_g55, pyN_a608, pyN_s608, pyN_g56, pyN_a609, pyN_s609, pyN_g57, pyN_a610, pyN_s610, pyN_g58, pyN_a611, pyN_s611, pyN_g59, pyN_a612, pyN_s612, pyN_g60, pyN_a613, pyN_s613, pyN_g74, pyN_a614, pyN_s614, pyN_g75, pyN_a615, pyN_s615, pyN_g76, pyN_a616, pyN_s616, pyN_g78, pyN_a617, pyN_s617, pyN_g79, pyN_a618, pyN_s618, G.1]
  exact pxW_b2 (n_join H X e42 e43 (by omega) (by omega) (by omega)) fun v h1 q => pxW_some.mpr (pyDo_fin (pyTR.a q Y) e44 e)
set_option maxHeartbeats 8000000 in
theorem n_act_118 {h : jw_H} {s : List Int} {p f l : Int} {T : pxTx} {S : pxSto} {rep : Bool} (H : pyS h) (G : pyG h s) (X : pyX h T) (Y : pyY h S) (I : pxInv T) (nb : T.2.2.2 ≤ 2000000000) (e42 : pxM h 587 42 = f) (e43 : pxM h 587 43 = l) (e44 : pxM h 587 44 = pyB rep) (rg : pxRgOk (pxP s p) f l T.1.length) (p0 : 0 ≤ p) (ok : (pxAct s p).1 = true) (c : pxP s p = 118) :
    pxW (f_X12_act h 587 (pxJ p)) fun v h' => pyDR h (pxDo s p f l T S rep) v h' := by
  have l60 := G.2.1.1
  have l40 := X.1.2.1
  have IS := Y.1
  have pl := (pxP_lt (s := s) (p := p) (by omega)).2
  have m := G.2.2 p p0 pl
  rw [← pxP_E p0 pl, c] at m
  rw [c] at rg
  unfold pxRgOk at rg
  have nok : (pxNum s (p + 1)).1 = true := by
    unfold pxAct at ok
    rw [c] at ok
    exact ok
  have nvb := pxNumV_b nok
  have na := n_numberAt H G (p := p + 1) (by omega) nok
  have e : pxDo s p f l T S rep = (pxDoT (pxSpPart (pxNumV s (p + 1)) f l T) S, rep) := by unfold pxDo pxDo1; rw [c]; rfl
  unfold f_X12_act
  rw [pyN_g21 H, px_bs, pyN_a599 H p0 (by omega), px_bs, m]
  try simp (maxSteps := 4000000) (disch := first | assumption | omega | (simp only [pyS_I]; assumption)) only [pxL0, pxL1, pxL2, pxL3, pxL4, pxL5, pxL6, pxL7, pxL8, pxL9, pxL10, pxL11, pxL12, pxL13, pxL14, pxL15, pxL16, pxL17, pxL18, pxL19, pxL20, pxL21, pxL22, pxL23, pxL24, pxL25, pxL26, pxL27, pxL28, pxL29, pxL30, pxL31, pxL32, pxL33, pxL34, pxL35, pxL36, pxL37, pxL38, pxL39, pxL40, pxL41, pxL42, pxL43, pxL44, pxL45, pxL46, pxL47, pxL48, pxL49, pxL51, pxL57, pxL58, pxL59, pxL60, pxL61, pxL62, pxL63, pxL64, pxL65, pxL66, pxL67, pxL68, pxL69, pxL70, pxL71, pxL72, pxL73, pxL74, pxL75, pxL76, pxL77, pxL78, pxL79, pxL80, pxL81, pxL82, pxL83, pxL84, pxL85, pxL86, pxL87, pxL88, pxL89, pxL90, pxL91, pxL92, pxL93, pxL94, pxL95, pxL96, pxL97, pxL98, pxL99, pxL100, pxL101, pxL102, pxL103, pxL104, pxL105, pxL106, pxL107, pxL108, pxL109, pxL110, pxL111, pxL112, pxL113, pxL114, pxL115, pxL116, pxL117, pxL118, pxL119, pxL120, pxL121, pxL122, pxL123, pxL124, pxL125, pxL126, pxL200, pxL240, pxL287, pxL388, pxL400, pxL429, pxL431, pxL440, pxL1240, pxL1600, pxL1681, pxL12028, pxL13849, pxL14880, pxL25173, pxL26908, pxL49600, pxL65535, pxL65536, ↓reduceIte, reduceCtorEq, pxJ_add, pxJ_sub, pxJ_mul, pxJ_neg, pxD_lt_t, pxD_lt_f, pxD_le_t, pxD_le_f, pxD_eq_t, pxD_eq_f, pxJ_lt, pxJ_le, pxJ_eq, pxJ_div, px_b2, px_bs, px_rb0, px_rb1, pxW_some, Option.some.injEq, pxM_eq, pxM_ne, pyN_gI, pyN_pI, pyN_rc, pyN_g1, pyN_a588, pyN_s588, pyN_g3, pyN_a589, pyN_s589, pyN_g4, pyN_a590, pyN_s590, pyN_g5, pyN_a591, pyN_s591, pyN_g6, pyN_a592, pyN_s592, pyN_g7, pyN_a593, pyN_s593, pyN_g8, pyN_a594, pyN_s594, pyN_g9, pyN_a595, pyN_s595, pyN_g10, pyN_a596, pyN_s596, pyN_g11, pyN_a597, pyN_s597, pyN_g19, pyN_a598, pyN_s598, pyN_g21, pyN_a599, pyN_s599, pyN_g31, pyN_a600, pyN_s600, pyN_g32, pyN_a601, pyN_s601, pyN_g38, pyN_a602, pyN_s602, pyN_g39, pyN_a603, pyN_s603, pyN_g46, pyN_a604, pyN_s604, pyN_g47, pyN_a605, pyN_s605, pyN_g48, pyN_a606, pyN_s606, pyN_g49, pyN_a607, pyN_s607, pyN_g55, pyN_a608, pyN_s608, pyN_g56, pyN_a609, pyN_s609, pyN_g57, pyN_a610, pyN_s610, pyN_g58, pyN_a611, pyN_s611, pyN_g59, pyN_a612, pyN_s612, pyN_g60, pyN_a613, pyN_s613, pyN_g74, pyN_a614, pyN_s614, pyN_g75, pyN_a615, pyN_s615, pyN_g76, pyN_a616, pyN_s616, pyN_g78, pyN_a617, pyN_s617, pyN_g79, pyN_a618, pyN_s618, G.1, na]
  exact pxW_b2 (n_part H X I nb nvb.1 nvb.2 e42 e43 (by omega) (by omega) (by omega)) fun v h1 q => pxW_some.mpr (pyDo_fin (pyTR.a q Y) e44 e)
set_option maxHeartbeats 8000000 in
theorem n_act_108 {h : jw_H} {s : List Int} {p f l : Int} {T : pxTx} {S : pxSto} {rep : Bool} (H : pyS h) (G : pyG h s) (X : pyX h T) (Y : pyY h S) (I : pxInv T) (nb : T.2.2.2 ≤ 2000000000) (e42 : pxM h 587 42 = f) (e43 : pxM h 587 43 = l) (e44 : pxM h 587 44 = pyB rep) (rg : pxRgOk (pxP s p) f l T.1.length) (p0 : 0 ≤ p) (ok : (pxAct s p).1 = true) (c : pxP s p = 108) :
    pxW (f_X12_act h 587 (pxJ p)) fun v h' => pyDR h (pxDo s p f l T S rep) v h' := by
  have l60 := G.2.1.1
  have l40 := X.1.2.1
  have IS := Y.1
  have pl := (pxP_lt (s := s) (p := p) (by omega)).2
  have m := G.2.2 p p0 pl
  rw [← pxP_E p0 pl, c] at m
  rw [c] at rg
  unfold pxRgOk at rg
  have e : pxDo s p f l T S rep = (pxDoT (0, pxSpUniq f l T) S, rep) := by unfold pxDo pxDo1; rw [c]; rfl
  unfold f_X12_act
  rw [pyN_g21 H, px_bs, pyN_a599 H p0 (by omega), px_bs, m]
  try simp (maxSteps := 4000000) (disch := first | assumption | omega | (simp only [pyS_I]; assumption)) only [pxL0, pxL1, pxL2, pxL3, pxL4, pxL5, pxL6, pxL7, pxL8, pxL9, pxL10, pxL11, pxL12, pxL13, pxL14, pxL15, pxL16, pxL17, pxL18, pxL19, pxL20, pxL21, pxL22, pxL23, pxL24, pxL25, pxL26, pxL27, pxL28, pxL29, pxL30, pxL31, pxL32, pxL33, pxL34, pxL35, pxL36, pxL37, pxL38, pxL39, pxL40, pxL41, pxL42, pxL43, pxL44, pxL45, pxL46, pxL47, pxL48, pxL49, pxL51, pxL57, pxL58, pxL59, pxL60, pxL61, pxL62, pxL63, pxL64, pxL65, pxL66, pxL67, pxL68, pxL69, pxL70, pxL71, pxL72, pxL73, pxL74, pxL75, pxL76, pxL77, pxL78, pxL79, pxL80, pxL81, pxL82, pxL83, pxL84, pxL85, pxL86, pxL87, pxL88, pxL89, pxL90, pxL91, pxL92, pxL93, pxL94, pxL95, pxL96, pxL97, pxL98, pxL99, pxL100, pxL101, pxL102, pxL103, pxL104, pxL105, pxL106, pxL107, pxL108, pxL109, pxL110, pxL111, pxL112, pxL113, pxL114, pxL115, pxL116, pxL117, pxL118, pxL119, pxL120, pxL121, pxL122, pxL123, pxL124, pxL125, pxL126, pxL200, pxL240, pxL287, pxL388, pxL400, pxL429, pxL431, pxL440, pxL1240, pxL1600, pxL1681, pxL12028, pxL13849, pxL14880, pxL25173, pxL26908, pxL49600, pxL65535, pxL65536, ↓reduceIte, reduceCtorEq, pxJ_add, pxJ_sub, pxJ_mul, pxJ_neg, pxD_lt_t, pxD_lt_f, pxD_le_t, pxD_le_f, pxD_eq_t, pxD_eq_f, pxJ_lt, pxJ_le, pxJ_eq, pxJ_div, px_b2, px_bs, px_rb0, px_rb1, pxW_some, Option.some.injEq, pxM_eq, pxM_ne, pyN_gI, pyN_pI, pyN_rc, pyN_g1, pyN_a588, pyN_s588, pyN_g3, pyN_a589, pyN_s589, pyN_g4, pyN_a590, pyN_s590, pyN_g5, pyN_a591, pyN_s591, pyN_g6, pyN_a592, pyN_s592, pyN_g7, pyN_a593, pyN_s593, pyN_g8, pyN_a594, pyN_s594, pyN_g9, pyN_a595, pyN_s595, pyN_g10, pyN_a596, pyN_s596, pyN_g11, pyN_a597, pyN_s597, pyN_g19, pyN_a598, pyN_s598, pyN_g21, pyN_a599, pyN_s599, pyN_g31, pyN_a600, pyN_s600, pyN_g32, pyN_a601, pyN_s601, pyN_g38, pyN_a602, pyN_s602, pyN_g39, pyN_a603, pyN_s603, pyN_g46, pyN_a604, pyN_s604, pyN_g47, pyN_a605, pyN_s605, pyN_g48, pyN_a606, pyN_s606, pyN_g49, pyN_a607, pyN_s607, pyN_g55, pyN_a608, pyN_s608, pyN_g56, pyN_a609, pyN_s609, pyN_g57, pyN_a610, pyN_s610, pyN_g58, pyN_a611, pyN_s611, pyN_g59, pyN_a612, pyN_s612, pyN_g60, pyN_a613, pyN_s613, pyN_g74, pyN_a614, pyN_s614, pyN_g75, pyN_a615, pyN_s615, pyN_g76, pyN_a616, pyN_s616, pyN_g78, pyN_a617, pyN_s617, pyN_g79, pyN_a618, pyN_s618, G.1]
  exact pxW_b2 (n_lessAlike H X e42 e43 (by omega) (by omega) (by omega)) fun v h1 q => pxW_some.mpr (pyDo_fin (pyTR.a q Y) e44 e)
set_option maxHeartbeats 8000000 in
theorem n_act_112 {h : jw_H} {s : List Int} {p f l : Int} {T : pxTx} {S : pxSto} {rep : Bool} (H : pyS h) (G : pyG h s) (X : pyX h T) (Y : pyY h S) (I : pxInv T) (nb : T.2.2.2 ≤ 2000000000) (e42 : pxM h 587 42 = f) (e43 : pxM h 587 43 = l) (e44 : pxM h 587 44 = pyB rep) (rg : pxRgOk (pxP s p) f l T.1.length) (p0 : 0 ≤ p) (ok : (pxAct s p).1 = true) (c : pxP s p = 112) :
    pxW (f_X12_act h 587 (pxJ p)) fun v h' => pyDR h (pxDo s p f l T S rep) v h' := by
  have l60 := G.2.1.1
  have l40 := X.1.2.1
  have IS := Y.1
  have pl := (pxP_lt (s := s) (p := p) (by omega)).2
  have m := G.2.2 p p0 pl
  rw [← pxP_E p0 pl, c] at m
  rw [c] at rg
  unfold pxRgOk at rg
  have ep : pyPre false = (fun _ => []) := by funext r; rfl
  have gd := pxGood_do1 (f := f) (l := l) I IS p0 (by omega) l60 ok (by rw [c]; decide) (by rw [c]; decide) (by rw [c]; decide) (by rw [c]; unfold pxRgOk; omega)
  have e1 : pxDo1 s p f l T S = pxSpPr (pyPre false) f l T S := by unfold pxDo1 pxSpTell; rw [c, ep]; rfl
  rw [e1] at gd
  have IR : pxInvS (pxSpPr (pyPre false) f l T S).2.2 := by
    unfold pxSpPr at gd ⊢
    cases z : pxPrint (pyPre false) (pxRs T.1) (l - f + 1).toNat f S.2.1 with
    | none => exact IS
    | some w => rw [z] at gd; exact (gd rfl).2.2
  have P := n_print (n := false) H X Y e42 e43 (by omega) (by omega) (by omega) IR
  simp only [Bool.false_eq_true, if_false, if_true] at P
  have e : pxDo s p f l T S rep = (pxSpPr (pyPre false) f l T S, rep) := by unfold pxDo; rw [e1, c]; rfl
  unfold f_X12_act g_X12_act_b122 g_X12_act_b134
  rw [pyN_g21 H, px_bs, pyN_a599 H p0 (by omega), px_bs, m]
  try simp (maxSteps := 4000000) (disch := first | assumption | omega | (simp only [pyS_I]; assumption)) only [pxL0, pxL1, pxL2, pxL3, pxL4, pxL5, pxL6, pxL7, pxL8, pxL9, pxL10, pxL11, pxL12, pxL13, pxL14, pxL15, pxL16, pxL17, pxL18, pxL19, pxL20, pxL21, pxL22, pxL23, pxL24, pxL25, pxL26, pxL27, pxL28, pxL29, pxL30, pxL31, pxL32, pxL33, pxL34, pxL35, pxL36, pxL37, pxL38, pxL39, pxL40, pxL41, pxL42, pxL43, pxL44, pxL45, pxL46, pxL47, pxL48, pxL49, pxL51, pxL57, pxL58, pxL59, pxL60, pxL61, pxL62, pxL63, pxL64, pxL65, pxL66, pxL67, pxL68, pxL69, pxL70, pxL71, pxL72, pxL73, pxL74, pxL75, pxL76, pxL77, pxL78, pxL79, pxL80, pxL81, pxL82, pxL83, pxL84, pxL85, pxL86, pxL87, pxL88, pxL89, pxL90, pxL91, pxL92, pxL93, pxL94, pxL95, pxL96, pxL97, pxL98, pxL99, pxL100, pxL101, pxL102, pxL103, pxL104, pxL105, pxL106, pxL107, pxL108, pxL109, pxL110, pxL111, pxL112, pxL113, pxL114, pxL115, pxL116, pxL117, pxL118, pxL119, pxL120, pxL121, pxL122, pxL123, pxL124, pxL125, pxL126, pxL200, pxL240, pxL287, pxL388, pxL400, pxL429, pxL431, pxL440, pxL1240, pxL1600, pxL1681, pxL12028, pxL13849, pxL14880, pxL25173, pxL26908, pxL49600, pxL65535, pxL65536, ↓reduceIte, reduceCtorEq, pxJ_add, pxJ_sub, pxJ_mul, pxJ_neg, pxD_lt_t, pxD_lt_f, pxD_le_t, pxD_le_f, pxD_eq_t, pxD_eq_f, pxJ_lt, pxJ_le, pxJ_eq, pxJ_div, px_b2, px_bs, px_rb0, px_rb1, pxW_some, Option.some.injEq, pxM_eq, pxM_ne, pyN_gI, pyN_pI, pyN_rc, pyN_g1, pyN_a588, pyN_s588, pyN_g3, pyN_a589, pyN_s589, pyN_g4, pyN_a590, pyN_s590, pyN_g5, pyN_a591, pyN_s591, pyN_g6, pyN_a592, pyN_s592, pyN_g7, pyN_a593, pyN_s593, pyN_g8, pyN_a594, pyN_s594, pyN_g9, pyN_a595, pyN_s595, pyN_g10, pyN_a596, pyN_s596, pyN_g11, pyN_a597, pyN_s597, pyN_g19, pyN_a598, pyN_s598, pyN_g21, pyN_a599, pyN_s599, pyN_g31, pyN_a600, pyN_s600, pyN_g32, pyN_a601, pyN_s601, pyN_g38, pyN_a602, pyN_s602, pyN_g39, pyN_a603, pyN_s603, pyN_g46, pyN_a604, pyN_s604, pyN_g47, pyN_a605, pyN_s605, pyN_g48, pyN_a606, pyN_s606, pyN_g49, pyN_a607, pyN_s607, pyN_g55, pyN_a608, pyN_s608, pyN_g56, pyN_a609, pyN_s609, pyN_g57, pyN_a610, pyN_s610, pyN_g58, pyN_a611, pyN_s611, pyN_g59, pyN_a612, pyN_s612, pyN_g60, pyN_a613, pyN_s613, pyN_g74, pyN_a614, pyN_s614, pyN_g75, pyN_a615, pyN_s615, pyN_g76, pyN_a616, pyN_s616, pyN_g78, pyN_a617, pyN_s617, pyN_g79, pyN_a618, pyN_s618, G.1]
  exact pxW_b2 (P) fun v h1 q => pxW_some.mpr (pyDo_fin q e44 e)
set_option maxHeartbeats 8000000 in
theorem n_act_110 {h : jw_H} {s : List Int} {p f l : Int} {T : pxTx} {S : pxSto} {rep : Bool} (H : pyS h) (G : pyG h s) (X : pyX h T) (Y : pyY h S) (I : pxInv T) (nb : T.2.2.2 ≤ 2000000000) (e42 : pxM h 587 42 = f) (e43 : pxM h 587 43 = l) (e44 : pxM h 587 44 = pyB rep) (rg : pxRgOk (pxP s p) f l T.1.length) (p0 : 0 ≤ p) (ok : (pxAct s p).1 = true) (c : pxP s p = 110) :
    pxW (f_X12_act h 587 (pxJ p)) fun v h' => pyDR h (pxDo s p f l T S rep) v h' := by
  have l60 := G.2.1.1
  have l40 := X.1.2.1
  have IS := Y.1
  have pl := (pxP_lt (s := s) (p := p) (by omega)).2
  have m := G.2.2 p p0 pl
  rw [← pxP_E p0 pl, c] at m
  rw [c] at rg
  unfold pxRgOk at rg
  have ep : pyPre true = (fun r => pxDig r ++ [32]) := by funext r; rfl
  have gd := pxGood_do1 (f := f) (l := l) I IS p0 (by omega) l60 ok (by rw [c]; decide) (by rw [c]; decide) (by rw [c]; decide) (by rw [c]; unfold pxRgOk; omega)
  have e1 : pxDo1 s p f l T S = pxSpPr (pyPre true) f l T S := by unfold pxDo1 pxSpTell; rw [c, ep]; rfl
  rw [e1] at gd
  have IR : pxInvS (pxSpPr (pyPre true) f l T S).2.2 := by
    unfold pxSpPr at gd ⊢
    cases z : pxPrint (pyPre true) (pxRs T.1) (l - f + 1).toNat f S.2.1 with
    | none => exact IS
    | some w => rw [z] at gd; exact (gd rfl).2.2
  have P := n_print (n := true) H X Y e42 e43 (by omega) (by omega) (by omega) IR
  simp only [Bool.false_eq_true, if_false, if_true] at P
  have e : pxDo s p f l T S rep = (pxSpPr (pyPre true) f l T S, rep) := by unfold pxDo; rw [e1, c]; rfl
  unfold f_X12_act g_X12_act_b122 g_X12_act_b134
  rw [pyN_g21 H, px_bs, pyN_a599 H p0 (by omega), px_bs, m]
  try simp (maxSteps := 4000000) (disch := first | assumption | omega | (simp only [pyS_I]; assumption)) only [pxL0, pxL1, pxL2, pxL3, pxL4, pxL5, pxL6, pxL7, pxL8, pxL9, pxL10, pxL11, pxL12, pxL13, pxL14, pxL15, pxL16, pxL17, pxL18, pxL19, pxL20, pxL21, pxL22, pxL23, pxL24, pxL25, pxL26, pxL27, pxL28, pxL29, pxL30, pxL31, pxL32, pxL33, pxL34, pxL35, pxL36, pxL37, pxL38, pxL39, pxL40, pxL41, pxL42, pxL43, pxL44, pxL45, pxL46, pxL47, pxL48, pxL49, pxL51, pxL57, pxL58, pxL59, pxL60, pxL61, pxL62, pxL63, pxL64, pxL65, pxL66, pxL67, pxL68, pxL69, pxL70, pxL71, pxL72, pxL73, pxL74, pxL75, pxL76, pxL77, pxL78, pxL79, pxL80, pxL81, pxL82, pxL83, pxL84, pxL85, pxL86, pxL87, pxL88, pxL89, pxL90, pxL91, pxL92, pxL93, pxL94, pxL95, pxL96, pxL97, pxL98, pxL99, pxL100, pxL101, pxL102, pxL103, pxL104, pxL105, pxL106, pxL107, pxL108, pxL109, pxL110, pxL111, pxL112, pxL113, pxL114, pxL115, pxL116, pxL117, pxL118, pxL119, pxL120, pxL121, pxL122, pxL123, pxL124, pxL125, pxL126, pxL200, pxL240, pxL287, pxL388, pxL400, pxL429, pxL431, pxL440, pxL1240, pxL1600, pxL1681, pxL12028, pxL13849, pxL14880, pxL25173, pxL26908, pxL49600, pxL65535, pxL65536, ↓reduceIte, reduceCtorEq, pxJ_add, pxJ_sub, pxJ_mul, pxJ_neg, pxD_lt_t, pxD_lt_f, pxD_le_t, pxD_le_f, pxD_eq_t, pxD_eq_f, pxJ_lt, pxJ_le, pxJ_eq, pxJ_div, px_b2, px_bs, px_rb0, px_rb1, pxW_some, Option.some.injEq, pxM_eq, pxM_ne, pyN_gI, pyN_pI, pyN_rc, pyN_g1, pyN_a588, pyN_s588, pyN_g3, pyN_a589, pyN_s589, pyN_g4, pyN_a590, pyN_s590, pyN_g5, pyN_a591, pyN_s591, pyN_g6, pyN_a592, pyN_s592, pyN_g7, pyN_a593, pyN_s593, pyN_g8, pyN_a594, pyN_s594, pyN_g9, pyN_a595, pyN_s595, pyN_g10, pyN_a596, pyN_s596, pyN_g11, pyN_a597, pyN_s597, pyN_g19, pyN_a598, pyN_s598, pyN_g21, pyN_a599, pyN_s599, pyN_g31, pyN_a600, pyN_s600, pyN_g32, pyN_a601, pyN_s601, pyN_g38, pyN_a602, pyN_s602, pyN_g39, pyN_a603, pyN_s603, pyN_g46, pyN_a604, pyN_s604, pyN_g47, pyN_a605, pyN_s605, pyN_g48, pyN_a606, pyN_s606, pyN_g49, pyN_a607, pyN_s607, pyN_g55, pyN_a608, pyN_s608, pyN_g56, pyN_a609, pyN_s609, pyN_g57, pyN_a610, pyN_s610, pyN_g58, pyN_a611, pyN_s611, pyN_g59, pyN_a612, pyN_s612, pyN_g60, pyN_a613, pyN_s613, pyN_g74, pyN_a614, pyN_s614, pyN_g75, pyN_a615, pyN_s615, pyN_g76, pyN_a616, pyN_s616, pyN_g78, pyN_a617, pyN_s617, pyN_g79, pyN_a618, pyN_s618, G.1]
  exact pxW_b2 (P) fun v h1 q => pxW_some.mpr (pyDo_fin q e44 e)
set_option maxHeartbeats 8000000 in
theorem n_act_61 {h : jw_H} {s : List Int} {p f l : Int} {T : pxTx} {S : pxSto} {rep : Bool} (H : pyS h) (G : pyG h s) (X : pyX h T) (Y : pyY h S) (I : pxInv T) (nb : T.2.2.2 ≤ 2000000000) (e42 : pxM h 587 42 = f) (e43 : pxM h 587 43 = l) (e44 : pxM h 587 44 = pyB rep) (rg : pxRgOk (pxP s p) f l T.1.length) (p0 : 0 ≤ p) (ok : (pxAct s p).1 = true) (c : pxP s p = 61) :
    pxW (f_X12_act h 587 (pxJ p)) fun v h' => pyDR h (pxDo s p f l T S rep) v h' := by
  have l60 := G.2.1.1
  have l40 := X.1.2.1
  have IS := Y.1
  have pl := (pxP_lt (s := s) (p := p) (by omega)).2
  have m := G.2.2 p p0 pl
  rw [← pxP_E p0 pl, c] at m
  rw [c] at rg
  unfold pxRgOk at rg
  have e : pxDo s p f l T S rep = (pxSpEq l T S, rep) := by unfold pxDo pxDo1 pxSpTell; rw [c]; rfl
  unfold f_X12_act
  rw [pyN_g21 H, px_bs, pyN_a599 H p0 (by omega), px_bs, m]
  try simp (maxSteps := 4000000) (disch := first | assumption | omega | (simp only [pyS_I]; assumption)) only [pxL0, pxL1, pxL2, pxL3, pxL4, pxL5, pxL6, pxL7, pxL8, pxL9, pxL10, pxL11, pxL12, pxL13, pxL14, pxL15, pxL16, pxL17, pxL18, pxL19, pxL20, pxL21, pxL22, pxL23, pxL24, pxL25, pxL26, pxL27, pxL28, pxL29, pxL30, pxL31, pxL32, pxL33, pxL34, pxL35, pxL36, pxL37, pxL38, pxL39, pxL40, pxL41, pxL42, pxL43, pxL44, pxL45, pxL46, pxL47, pxL48, pxL49, pxL51, pxL57, pxL58, pxL59, pxL60, pxL61, pxL62, pxL63, pxL64, pxL65, pxL66, pxL67, pxL68, pxL69, pxL70, pxL71, pxL72, pxL73, pxL74, pxL75, pxL76, pxL77, pxL78, pxL79, pxL80, pxL81, pxL82, pxL83, pxL84, pxL85, pxL86, pxL87, pxL88, pxL89, pxL90, pxL91, pxL92, pxL93, pxL94, pxL95, pxL96, pxL97, pxL98, pxL99, pxL100, pxL101, pxL102, pxL103, pxL104, pxL105, pxL106, pxL107, pxL108, pxL109, pxL110, pxL111, pxL112, pxL113, pxL114, pxL115, pxL116, pxL117, pxL118, pxL119, pxL120, pxL121, pxL122, pxL123, pxL124, pxL125, pxL126, pxL200, pxL240, pxL287, pxL388, pxL400, pxL429, pxL431, pxL440, pxL1240, pxL1600, pxL1681, pxL12028, pxL13849, pxL14880, pxL25173, pxL26908, pxL49600, pxL65535, pxL65536, ↓reduceIte, reduceCtorEq, pxJ_add, pxJ_sub, pxJ_mul, pxJ_neg, pxD_lt_t, pxD_lt_f, pxD_le_t, pxD_le_f, pxD_eq_t, pxD_eq_f, pxJ_lt, pxJ_le, pxJ_eq, pxJ_div, px_b2, px_bs, px_rb0, px_rb1, pxW_some, Option.some.injEq, pxM_eq, pxM_ne, pyN_gI, pyN_pI, pyN_rc, pyN_g1, pyN_a588, pyN_s588, pyN_g3, pyN_a589, pyN_s589, pyN_g4, pyN_a590, pyN_s590, pyN_g5, pyN_a591, pyN_s591, pyN_g6, pyN_a592, pyN_s592, pyN_g7, pyN_a593, pyN_s593, pyN_g8, pyN_a594, pyN_s594, pyN_g9, pyN_a595, pyN_s595, pyN_g10, pyN_a596, pyN_s596, pyN_g11, pyN_a597, pyN_s597, pyN_g19, pyN_a598, pyN_s598, pyN_g21, pyN_a599, pyN_s599, pyN_g31, pyN_a600, pyN_s600, pyN_g32, pyN_a601, pyN_s601, pyN_g38, pyN_a602, pyN_s602, pyN_g39, pyN_a603, pyN_s603, pyN_g46, pyN_a604, pyN_s604, pyN_g47, pyN_a605, pyN_s605, pyN_g48, pyN_a606, pyN_s606, pyN_g49, pyN_a607, pyN_s607, pyN_g55, pyN_a608, pyN_s608, pyN_g56, pyN_a609, pyN_s609, pyN_g57, pyN_a610, pyN_s610, pyN_g58, pyN_a611, pyN_s611, pyN_g59, pyN_a612, pyN_s612, pyN_g60, pyN_a613, pyN_s613, pyN_g74, pyN_a614, pyN_s614, pyN_g75, pyN_a615, pyN_s615, pyN_g76, pyN_a616, pyN_s616, pyN_g78, pyN_a617, pyN_s617, pyN_g79, pyN_a618, pyN_s618, G.1, e43]
  have ln0 : ([] : List Int).length ≤ 99000 := Nat.zero_le _
  have H0 : pyS (jw_setI h 587 20 (pxJ 0)) := H
  refine pxW_b2 (n_makesNumber H0 pyMd_0 (n := l) (by omega) (by omega) ln0) fun _ h1 q => ?_
  obtain ⟨V1, M1⟩ := q
  have H1 := V1.s H0
  rw [List.nil_append] at M1
  have V0 : pyV pyQm h h1 := (pyV.rfl.set (Or.inl ⟨rfl, rfl⟩)).trans V1
  rw [pyN_rc H1, px_bs]
  have O1 := Y.2.2.1.keep Y.1.2.1.1 Y.1.2.1.2 V0 (fun f _ _ => by unfold pyQm; omega) (by unfold pyQm; omega)
  refine pxW_b2 (n_tells H1 O1 Y.1.2.1.1 Y.1.2.1.2 M1) fun v h2 q => pxW_some.mpr (pyDo_fin ?_ e44 e)
  obtain ⟨V2, q2, q3⟩ := q
  have dl := pyDig_le (n := l)
  have V : pyV pyQA h h2 := (V0.mono (fun k f z => by unfold pyQm at z; unfold pyQA; omega)).trans (V2.mono (fun k f z => by unfold pyQu at z; unfold pyQA; omega))
  unfold pxSpEq
  by_cases d : S.2.1.length < 100
  · rw [if_pos d]
    rw [if_pos (show (pxDig l).length ≤ 30 ∧ S.2.1.length < 100 from ⟨by omega, d⟩)] at q2
    have VV : pyV (fun k f => pyQm k f ∨ pyQu k f) h h2 := (V0.mono (Q := fun k f => pyQm k f ∨ pyQu k f) (fun k f z => Or.inl z)).trans (V2.mono (fun k f z => Or.inr z))
    have cd : ∀ x ∈ pxDig l, pxCh x := fun x hx => pyPre_ch (n := true) (r := l) (by omega) x (by unfold pyPre; rw [if_pos rfl]; exact List.mem_append_left _ hx)
    refine ⟨V, q2, fun _ => ⟨X.keep VV (fun k f z => by unfold pyQm pyQu; omega), ⟨⟨Y.1.1, ⟨?_, pxOk_app Y.1.2.1.2 (pxOk_one ⟨by omega, cd⟩)⟩, Y.1.2.2⟩, Y.2.1.keep Y.1.1.1 Y.1.1.2 VV (fun f _ _ => by unfold pyQm pyQu; omega) (by unfold pyQm pyQu; omega), q3 ⟨by omega, d⟩, Y.2.2.2.keep Y.1.2.2 VV (fun f _ _ => by unfold pyQm pyQu; omega) (fun f _ => by unfold pyQm pyQu; omega)⟩⟩⟩
    show (S.2.1 ++ [pxDig l]).length ≤ 100
    rw [List.length_append, List.length_singleton]
    omega
  · rw [if_neg d]
    rw [if_neg (show ¬ ((pxDig l).length ≤ 30 ∧ S.2.1.length < 100) from fun z => d z.2)] at q2
    exact ⟨V, q2, fun z => absurd z (by show ¬ (4 : Int) = 0; decide)⟩
set_option maxHeartbeats 8000000 in
theorem n_act_104 {h : jw_H} {s : List Int} {p f l : Int} {T : pxTx} {S : pxSto} {rep : Bool} (H : pyS h) (G : pyG h s) (X : pyX h T) (Y : pyY h S) (I : pxInv T) (nb : T.2.2.2 ≤ 2000000000) (e42 : pxM h 587 42 = f) (e43 : pxM h 587 43 = l) (e44 : pxM h 587 44 = pyB rep) (rg : pxRgOk (pxP s p) f l T.1.length) (p0 : 0 ≤ p) (ok : (pxAct s p).1 = true) (c : pxP s p = 104) :
    pxW (f_X12_act h 587 (pxJ p)) fun v h' => pyDR h (pxDo s p f l T S rep) v h' := by
  have l60 := G.2.1.1
  have l40 := X.1.2.1
  have IS := Y.1
  have pl := (pxP_lt (s := s) (p := p) (by omega)).2
  have m := G.2.2 p p0 pl
  rw [← pxP_E p0 pl, c] at m
  rw [c] at rg
  unfold pxRgOk at rg
  have e : pxDo s p f l T S rep = (pxSpHold f l T S, rep) := by unfold pxDo pxDo1 pxSpTell; rw [c]; rfl
  unfold f_X12_act g_X12_act_b174 g_X12_act_b189
  rw [pyN_g21 H, px_bs, pyN_a599 H p0 (by omega), px_bs, m]
  try simp (maxSteps := 4000000) (disch := first | assumption | omega | (simp only [pyS_I]; assumption)) only [pxL0, pxL1, pxL2, pxL3, pxL4, pxL5, pxL6, pxL7, pxL8, pxL9, pxL10, pxL11, pxL12, pxL13, pxL14, pxL15, pxL16, pxL17, pxL18, pxL19, pxL20, pxL21, pxL22, pxL23, pxL24, pxL25, pxL26, pxL27, pxL28, pxL29, pxL30, pxL31, pxL32, pxL33, pxL34, pxL35, pxL36, pxL37, pxL38, pxL39, pxL40, pxL41, pxL42, pxL43, pxL44, pxL45, pxL46, pxL47, pxL48, pxL49, pxL51, pxL57, pxL58, pxL59, pxL60, pxL61, pxL62, pxL63, pxL64, pxL65, pxL66, pxL67, pxL68, pxL69, pxL70, pxL71, pxL72, pxL73, pxL74, pxL75, pxL76, pxL77, pxL78, pxL79, pxL80, pxL81, pxL82, pxL83, pxL84, pxL85, pxL86, pxL87, pxL88, pxL89, pxL90, pxL91, pxL92, pxL93, pxL94, pxL95, pxL96, pxL97, pxL98, pxL99, pxL100, pxL101, pxL102, pxL103, pxL104, pxL105, pxL106, pxL107, pxL108, pxL109, pxL110, pxL111, pxL112, pxL113, pxL114, pxL115, pxL116, pxL117, pxL118, pxL119, pxL120, pxL121, pxL122, pxL123, pxL124, pxL125, pxL126, pxL200, pxL240, pxL287, pxL388, pxL400, pxL429, pxL431, pxL440, pxL1240, pxL1600, pxL1681, pxL12028, pxL13849, pxL14880, pxL25173, pxL26908, pxL49600, pxL65535, pxL65536, ↓reduceIte, reduceCtorEq, pxJ_add, pxJ_sub, pxJ_mul, pxJ_neg, pxD_lt_t, pxD_lt_f, pxD_le_t, pxD_le_f, pxD_eq_t, pxD_eq_f, pxJ_lt, pxJ_le, pxJ_eq, pxJ_div, px_b2, px_bs, px_rb0, px_rb1, pxW_some, Option.some.injEq, pxM_eq, pxM_ne, pyN_gI, pyN_pI, pyN_rc, pyN_g1, pyN_a588, pyN_s588, pyN_g3, pyN_a589, pyN_s589, pyN_g4, pyN_a590, pyN_s590, pyN_g5, pyN_a591, pyN_s591, pyN_g6, pyN_a592, pyN_s592, pyN_g7, pyN_a593, pyN_s593, pyN_g8, pyN_a594, pyN_s594, pyN_g9, pyN_a595, pyN_s595, pyN_g10, pyN_a596, pyN_s596, pyN_g11, pyN_a597, pyN_s597, pyN_g19, pyN_a598, pyN_s598, pyN_g21, pyN_a599, pyN_s599, pyN_g31, pyN_a600, pyN_s600, pyN_g32, pyN_a601, pyN_s601, pyN_g38, pyN_a602, pyN_s602, pyN_g39, pyN_a603, pyN_s603, pyN_g46, pyN_a604, pyN_s604, pyN_g47, pyN_a605, pyN_s605, pyN_g48, pyN_a606, pyN_s606, pyN_g49, pyN_a607, pyN_s607, pyN_g55, pyN_a608, pyN_s608, pyN_g56, pyN_a609, pyN_s609, pyN_g57, pyN_a610, pyN_s610, pyN_g58, pyN_a611, pyN_s611, pyN_g59, pyN_a612, pyN_s612, pyN_g60, pyN_a613, pyN_s613, pyN_g74, pyN_a614, pyN_s614, pyN_g75, pyN_a615, pyN_s615, pyN_g76, pyN_a616, pyN_s616, pyN_g78, pyN_a617, pyN_s617, pyN_g79, pyN_a618, pyN_s618, G.1]
  have B := n_hold (a := 0) H X Y e42 e43 (by omega) (by omega) (by omega) (Or.inl rfl)
  rw [if_pos (show 0 + (l - f + 1) ≤ 40 by omega)] at B
  exact pxW_b2 (B) fun v h1 q => pxW_some.mpr (pyDo_fin q e44 e)
set_option maxHeartbeats 8000000 in
theorem n_act_72 {h : jw_H} {s : List Int} {p f l : Int} {T : pxTx} {S : pxSto} {rep : Bool} (H : pyS h) (G : pyG h s) (X : pyX h T) (Y : pyY h S) (I : pxInv T) (nb : T.2.2.2 ≤ 2000000000) (e42 : pxM h 587 42 = f) (e43 : pxM h 587 43 = l) (e44 : pxM h 587 44 = pyB rep) (rg : pxRgOk (pxP s p) f l T.1.length) (p0 : 0 ≤ p) (ok : (pxAct s p).1 = true) (c : pxP s p = 72) :
    pxW (f_X12_act h 587 (pxJ p)) fun v h' => pyDR h (pxDo s p f l T S rep) v h' := by
  have l60 := G.2.1.1
  have l40 := X.1.2.1
  have IS := Y.1
  have pl := (pxP_lt (s := s) (p := p) (by omega)).2
  have m := G.2.2 p p0 pl
  rw [← pxP_E p0 pl, c] at m
  rw [c] at rg
  unfold pxRgOk at rg
  have e : pxDo s p f l T S rep = (pxSpMore f l T S, rep) := by unfold pxDo pxDo1 pxSpTell; rw [c]; rfl
  unfold f_X12_act g_X12_act_b174 g_X12_act_b189
  rw [pyN_g21 H, px_bs, pyN_a599 H p0 (by omega), px_bs, m]
  try simp (maxSteps := 4000000) (disch := first | assumption | omega | (simp only [pyS_I]; assumption)) only [pxL0, pxL1, pxL2, pxL3, pxL4, pxL5, pxL6, pxL7, pxL8, pxL9, pxL10, pxL11, pxL12, pxL13, pxL14, pxL15, pxL16, pxL17, pxL18, pxL19, pxL20, pxL21, pxL22, pxL23, pxL24, pxL25, pxL26, pxL27, pxL28, pxL29, pxL30, pxL31, pxL32, pxL33, pxL34, pxL35, pxL36, pxL37, pxL38, pxL39, pxL40, pxL41, pxL42, pxL43, pxL44, pxL45, pxL46, pxL47, pxL48, pxL49, pxL51, pxL57, pxL58, pxL59, pxL60, pxL61, pxL62, pxL63, pxL64, pxL65, pxL66, pxL67, pxL68, pxL69, pxL70, pxL71, pxL72, pxL73, pxL74, pxL75, pxL76, pxL77, pxL78, pxL79, pxL80, pxL81, pxL82, pxL83, pxL84, pxL85, pxL86, pxL87, pxL88, pxL89, pxL90, pxL91, pxL92, pxL93, pxL94, pxL95, pxL96, pxL97, pxL98, pxL99, pxL100, pxL101, pxL102, pxL103, pxL104, pxL105, pxL106, pxL107, pxL108, pxL109, pxL110, pxL111, pxL112, pxL113, pxL114, pxL115, pxL116, pxL117, pxL118, pxL119, pxL120, pxL121, pxL122, pxL123, pxL124, pxL125, pxL126, pxL200, pxL240, pxL287, pxL388, pxL400, pxL429, pxL431, pxL440, pxL1240, pxL1600, pxL1681, pxL12028, pxL13849, pxL14880, pxL25173, pxL26908, pxL49600, pxL65535, pxL65536, ↓reduceIte, reduceCtorEq, pxJ_add, pxJ_sub, pxJ_mul, pxJ_neg, pxD_lt_t, pxD_lt_f, pxD_le_t, pxD_le_f, pxD_eq_t, pxD_eq_f, pxJ_lt, pxJ_le, pxJ_eq, pxJ_div, px_b2, px_bs, px_rb0, px_rb1, pxW_some, Option.some.injEq, pxM_eq, pxM_ne, pyN_gI, pyN_pI, pyN_rc, pyN_g1, pyN_a588, pyN_s588, pyN_g3, pyN_a589, pyN_s589, pyN_g4, pyN_a590, pyN_s590, pyN_g5, pyN_a591, pyN_s591, pyN_g6, pyN_a592, pyN_s592, pyN_g7, pyN_a593, pyN_s593, pyN_g8, pyN_a594, pyN_s594, pyN_g9, pyN_a595, pyN_s595, pyN_g10, pyN_a596, pyN_s596, pyN_g11, pyN_a597, pyN_s597, pyN_g19, pyN_a598, pyN_s598, pyN_g21, pyN_a599, pyN_s599, pyN_g31, pyN_a600, pyN_s600, pyN_g32, pyN_a601, pyN_s601, pyN_g38, pyN_a602, pyN_s602, pyN_g39, pyN_a603, pyN_s603, pyN_g46, pyN_a604, pyN_s604, pyN_g47, pyN_a605, pyN_s605, pyN_g48, pyN_a606, pyN_s606, pyN_g49, pyN_a607, pyN_s607, pyN_g55, pyN_a608, pyN_s608, pyN_g56, pyN_a609, pyN_s609, pyN_g57, pyN_a610, pyN_s610, pyN_g58, pyN_a611, pyN_s611, pyN_g59, pyN_a612, pyN_s612, pyN_g60, pyN_a613, pyN_s613, pyN_g74, pyN_a614, pyN_s614, pyN_g75, pyN_a615, pyN_s615, pyN_g76, pyN_a616, pyN_s616, pyN_g78, pyN_a617, pyN_s617, pyN_g79, pyN_a618, pyN_s618, G.1, Y.2.1.1]
  have B := n_hold (a := S.1.length) H X Y e42 e43 (by omega) (by omega) (by omega) (Or.inr rfl)
  have em : (if (S.1.length : Int) + (l - f + 1) ≤ 40 then ((0, (T.1, T.2.1, l, T.2.2.2), (S.1.take (S.1.length : Int).toNat ++ pxSub (pxRs T.1) f l, S.2.1, S.2.2)) : Int × pxTx × pxSto) else (4, T, S)) = pxSpMore f l T S := by
    unfold pxSpMore
    rw [show ((S.1.length : Int)).toNat = S.1.length by omega, List.take_length]
  rw [em] at B
  exact pxW_b2 (B) fun v h1 q => pxW_some.mpr (pyDo_fin q e44 e)
set_option maxHeartbeats 8000000 in
theorem n_act_117 {h : jw_H} {s : List Int} {p f l : Int} {T : pxTx} {S : pxSto} {rep : Bool} (H : pyS h) (G : pyG h s) (X : pyX h T) (Y : pyY h S) (I : pxInv T) (nb : T.2.2.2 ≤ 2000000000) (e42 : pxM h 587 42 = f) (e43 : pxM h 587 43 = l) (e44 : pxM h 587 44 = pyB rep) (rg : pxRgOk (pxP s p) f l T.1.length) (p0 : 0 ≤ p) (ok : (pxAct s p).1 = true) (c : pxP s p = 117) :
    pxW (f_X12_act h 587 (pxJ p)) fun v h' => pyDR h (pxDo s p f l T S rep) v h' := by
  have l60 := G.2.1.1
  have l40 := X.1.2.1
  have IS := Y.1
  have pl := (pxP_lt (s := s) (p := p) (by omega)).2
  have m := G.2.2 p p0 pl
  rw [← pxP_E p0 pl, c] at m
  rw [c] at rg
  unfold pxRgOk at rg
  have e : pxDo s p f l T S rep = (if S.1 = [] then (5, T, S) else pxDoT (pxSpBring false (l + 1) f l S.1 T) S, rep) := by unfold pxDo pxDo1; rw [c]; rfl
  unfold f_X12_act
  rw [pyN_g21 H, px_bs, pyN_a599 H p0 (by omega), px_bs, m]
  try simp (maxSteps := 4000000) (disch := first | assumption | omega | (simp only [pyS_I]; assumption)) only [pxL0, pxL1, pxL2, pxL3, pxL4, pxL5, pxL6, pxL7, pxL8, pxL9, pxL10, pxL11, pxL12, pxL13, pxL14, pxL15, pxL16, pxL17, pxL18, pxL19, pxL20, pxL21, pxL22, pxL23, pxL24, pxL25, pxL26, pxL27, pxL28, pxL29, pxL30, pxL31, pxL32, pxL33, pxL34, pxL35, pxL36, pxL37, pxL38, pxL39, pxL40, pxL41, pxL42, pxL43, pxL44, pxL45, pxL46, pxL47, pxL48, pxL49, pxL51, pxL57, pxL58, pxL59, pxL60, pxL61, pxL62, pxL63, pxL64, pxL65, pxL66, pxL67, pxL68, pxL69, pxL70, pxL71, pxL72, pxL73, pxL74, pxL75, pxL76, pxL77, pxL78, pxL79, pxL80, pxL81, pxL82, pxL83, pxL84, pxL85, pxL86, pxL87, pxL88, pxL89, pxL90, pxL91, pxL92, pxL93, pxL94, pxL95, pxL96, pxL97, pxL98, pxL99, pxL100, pxL101, pxL102, pxL103, pxL104, pxL105, pxL106, pxL107, pxL108, pxL109, pxL110, pxL111, pxL112, pxL113, pxL114, pxL115, pxL116, pxL117, pxL118, pxL119, pxL120, pxL121, pxL122, pxL123, pxL124, pxL125, pxL126, pxL200, pxL240, pxL287, pxL388, pxL400, pxL429, pxL431, pxL440, pxL1240, pxL1600, pxL1681, pxL12028, pxL13849, pxL14880, pxL25173, pxL26908, pxL49600, pxL65535, pxL65536, ↓reduceIte, reduceCtorEq, pxJ_add, pxJ_sub, pxJ_mul, pxJ_neg, pxD_lt_t, pxD_lt_f, pxD_le_t, pxD_le_f, pxD_eq_t, pxD_eq_f, pxJ_lt, pxJ_le, pxJ_eq, pxJ_div, px_b2, px_bs, px_rb0, px_rb1, pxW_some, Option.some.injEq, pxM_eq, pxM_ne, pyN_gI, pyN_pI, pyN_rc, pyN_g1, pyN_a588, pyN_s588, pyN_g3, pyN_a589, pyN_s589, pyN_g4, pyN_a590, pyN_s590, pyN_g5, pyN_a591, pyN_s591, pyN_g6, pyN_a592, pyN_s592, pyN_g7, pyN_a593, pyN_s593, pyN_g8, pyN_a594, pyN_s594, pyN_g9, pyN_a595, pyN_s595, pyN_g10, pyN_a596, pyN_s596, pyN_g11, pyN_a597, pyN_s597, pyN_g19, pyN_a598, pyN_s598, pyN_g21, pyN_a599, pyN_s599, pyN_g31, pyN_a600, pyN_s600, pyN_g32, pyN_a601, pyN_s601, pyN_g38, pyN_a602, pyN_s602, pyN_g39, pyN_a603, pyN_s603, pyN_g46, pyN_a604, pyN_s604, pyN_g47, pyN_a605, pyN_s605, pyN_g48, pyN_a606, pyN_s606, pyN_g49, pyN_a607, pyN_s607, pyN_g55, pyN_a608, pyN_s608, pyN_g56, pyN_a609, pyN_s609, pyN_g57, pyN_a610, pyN_s610, pyN_g58, pyN_a611, pyN_s611, pyN_g59, pyN_a612, pyN_s612, pyN_g60, pyN_a613, pyN_s613, pyN_g74, pyN_a614, pyN_s614, pyN_g75, pyN_a615, pyN_s615, pyN_g76, pyN_a616, pyN_s616, pyN_g78, pyN_a617, pyN_s617, pyN_g79, pyN_a618, pyN_s618, G.1]
  exact pxW_b2 (n_bringHeld (f := f) H X Y I nb e43 (by omega) (by omega)) fun v h1 q => pxW_some.mpr (pyDo_fin q e44 e)
set_option maxHeartbeats 8000000 in
theorem n_act_101 {h : jw_H} {s : List Int} {p f l : Int} {T : pxTx} {S : pxSto} {rep : Bool} (H : pyS h) (G : pyG h s) (X : pyX h T) (Y : pyY h S) (I : pxInv T) (nb : T.2.2.2 ≤ 2000000000) (e42 : pxM h 587 42 = f) (e43 : pxM h 587 43 = l) (e44 : pxM h 587 44 = pyB rep) (rg : pxRgOk (pxP s p) f l T.1.length) (p0 : 0 ≤ p) (ok : (pxAct s p).1 = true) (c : pxP s p = 101) :
    pxW (f_X12_act h 587 (pxJ p)) fun v h' => pyDR h (pxDo s p f l T S rep) v h' := by
  have l60 := G.2.1.1
  have l40 := X.1.2.1
  have IS := Y.1
  have pl := (pxP_lt (s := s) (p := p) (by omega)).2
  have m := G.2.2 p p0 pl
  rw [← pxP_E p0 pl, c] at m
  rw [c] at rg
  unfold pxRgOk at rg
  have e : pxDo s p f l T S rep = (pxSpExch f l T S, rep) := by unfold pxDo pxDo1; rw [c]; rfl
  unfold f_X12_act
  rw [pyN_g21 H, px_bs, pyN_a599 H p0 (by omega), px_bs, m]
  try simp (maxSteps := 4000000) (disch := first | assumption | omega | (simp only [pyS_I]; assumption)) only [pxL0, pxL1, pxL2, pxL3, pxL4, pxL5, pxL6, pxL7, pxL8, pxL9, pxL10, pxL11, pxL12, pxL13, pxL14, pxL15, pxL16, pxL17, pxL18, pxL19, pxL20, pxL21, pxL22, pxL23, pxL24, pxL25, pxL26, pxL27, pxL28, pxL29, pxL30, pxL31, pxL32, pxL33, pxL34, pxL35, pxL36, pxL37, pxL38, pxL39, pxL40, pxL41, pxL42, pxL43, pxL44, pxL45, pxL46, pxL47, pxL48, pxL49, pxL51, pxL57, pxL58, pxL59, pxL60, pxL61, pxL62, pxL63, pxL64, pxL65, pxL66, pxL67, pxL68, pxL69, pxL70, pxL71, pxL72, pxL73, pxL74, pxL75, pxL76, pxL77, pxL78, pxL79, pxL80, pxL81, pxL82, pxL83, pxL84, pxL85, pxL86, pxL87, pxL88, pxL89, pxL90, pxL91, pxL92, pxL93, pxL94, pxL95, pxL96, pxL97, pxL98, pxL99, pxL100, pxL101, pxL102, pxL103, pxL104, pxL105, pxL106, pxL107, pxL108, pxL109, pxL110, pxL111, pxL112, pxL113, pxL114, pxL115, pxL116, pxL117, pxL118, pxL119, pxL120, pxL121, pxL122, pxL123, pxL124, pxL125, pxL126, pxL200, pxL240, pxL287, pxL388, pxL400, pxL429, pxL431, pxL440, pxL1240, pxL1600, pxL1681, pxL12028, pxL13849, pxL14880, pxL25173, pxL26908, pxL49600, pxL65535, pxL65536, ↓reduceIte, reduceCtorEq, pxJ_add, pxJ_sub, pxJ_mul, pxJ_neg, pxD_lt_t, pxD_lt_f, pxD_le_t, pxD_le_f, pxD_eq_t, pxD_eq_f, pxJ_lt, pxJ_le, pxJ_eq, pxJ_div, px_b2, px_bs, px_rb0, px_rb1, pxW_some, Option.some.injEq, pxM_eq, pxM_ne, pyN_gI, pyN_pI, pyN_rc, pyN_g1, pyN_a588, pyN_s588, pyN_g3, pyN_a589, pyN_s589, pyN_g4, pyN_a590, pyN_s590, pyN_g5, pyN_a591, pyN_s591, pyN_g6, pyN_a592, pyN_s592, pyN_g7, pyN_a593, pyN_s593, pyN_g8, pyN_a594, pyN_s594, pyN_g9, pyN_a595, pyN_s595, pyN_g10, pyN_a596, pyN_s596, pyN_g11, pyN_a597, pyN_s597, pyN_g19, pyN_a598, pyN_s598, pyN_g21, pyN_a599, pyN_s599, pyN_g31, pyN_a600, pyN_s600, pyN_g32, pyN_a601, pyN_s601, pyN_g38, pyN_a602, pyN_s602, pyN_g39, pyN_a603, pyN_s603, pyN_g46, pyN_a604, pyN_s604, pyN_g47, pyN_a605, pyN_s605, pyN_g48, pyN_a606, pyN_s606, pyN_g49, pyN_a607, pyN_s607, pyN_g55, pyN_a608, pyN_s608, pyN_g56, pyN_a609, pyN_s609, pyN_g57, pyN_a610, pyN_s610, pyN_g58, pyN_a611, pyN_s611, pyN_g59, pyN_a612, pyN_s612, pyN_g60, pyN_a613, pyN_s613, pyN_g74, pyN_a614, pyN_s614, pyN_g75, pyN_a615, pyN_s615, pyN_g76, pyN_a616, pyN_s616, pyN_g78, pyN_a617, pyN_s617, pyN_g79, pyN_a618, pyN_s618, G.1]
  exact pxW_b2 (n_exchange H X Y I nb e42 e43 (by omega) (by omega) (by omega)) fun v h1 q => pxW_some.mpr (pyDo_fin q e44 e)
set_option maxHeartbeats 8000000 in
theorem n_act_62 {h : jw_H} {s : List Int} {p f l : Int} {T : pxTx} {S : pxSto} {rep : Bool} (H : pyS h) (G : pyG h s) (X : pyX h T) (Y : pyY h S) (I : pxInv T) (nb : T.2.2.2 ≤ 2000000000) (e42 : pxM h 587 42 = f) (e43 : pxM h 587 43 = l) (e44 : pxM h 587 44 = pyB rep) (rg : pxRgOk (pxP s p) f l T.1.length) (p0 : 0 ≤ p) (ok : (pxAct s p).1 = true) (c : pxP s p = 62) :
    pxW (f_X12_otherAct h 587 (pxJ p)) fun v h' => pyDR h (pxDo s p f l T S rep) v h' := by
  have l60 := G.2.1.1
  have l40 := X.1.2.1
  have IS := Y.1
  have pl := (pxP_lt (s := s) (p := p) (by omega)).2
  have m := G.2.2 p p0 pl
  rw [← pxP_E p0 pl, c] at m
  rw [c] at rg
  unfold pxRgOk at rg
  have nok : (pxNum s (p + 1)).1 = true := by
    unfold pxAct at ok
    rw [c] at ok
    exact ok
  have nvb := pxNumV_b nok
  have na := n_numberAt H G (p := p + 1) (by omega) nok
  have P := n_shift (rep := rep) H G X Y e42 e43 e44 (by omega) (by omega) (by omega) p0 (by omega) ok nok
  rw [c] at P
  rw [if_pos rfl] at P
  have e : pxDo s p f l T S rep = pxDoC s p f l T S rep := by unfold pxDo; rw [c]; rfl
  unfold f_X12_otherAct g_X12_otherAct_b19 g_X12_otherAct_b38
  rw [pyN_g21 H, px_bs, pyN_a599 H p0 (by omega), px_bs, m]
  try simp (maxSteps := 4000000) (disch := first | assumption | omega | (simp only [pyS_I]; assumption)) only [pxL0, pxL1, pxL2, pxL3, pxL4, pxL5, pxL6, pxL7, pxL8, pxL9, pxL10, pxL11, pxL12, pxL13, pxL14, pxL15, pxL16, pxL17, pxL18, pxL19, pxL20, pxL21, pxL22, pxL23, pxL24, pxL25, pxL26, pxL27, pxL28, pxL29, pxL30, pxL31, pxL32, pxL33, pxL34, pxL35, pxL36, pxL37, pxL38, pxL39, pxL40, pxL41, pxL42, pxL43, pxL44, pxL45, pxL46, pxL47, pxL48, pxL49, pxL51, pxL57, pxL58, pxL59, pxL60, pxL61, pxL62, pxL63, pxL64, pxL65, pxL66, pxL67, pxL68, pxL69, pxL70, pxL71, pxL72, pxL73, pxL74, pxL75, pxL76, pxL77, pxL78, pxL79, pxL80, pxL81, pxL82, pxL83, pxL84, pxL85, pxL86, pxL87, pxL88, pxL89, pxL90, pxL91, pxL92, pxL93, pxL94, pxL95, pxL96, pxL97, pxL98, pxL99, pxL100, pxL101, pxL102, pxL103, pxL104, pxL105, pxL106, pxL107, pxL108, pxL109, pxL110, pxL111, pxL112, pxL113, pxL114, pxL115, pxL116, pxL117, pxL118, pxL119, pxL120, pxL121, pxL122, pxL123, pxL124, pxL125, pxL126, pxL200, pxL240, pxL287, pxL388, pxL400, pxL429, pxL431, pxL440, pxL1240, pxL1600, pxL1681, pxL12028, pxL13849, pxL14880, pxL25173, pxL26908, pxL49600, pxL65535, pxL65536, ↓reduceIte, reduceCtorEq, pxJ_add, pxJ_sub, pxJ_mul, pxJ_neg, pxD_lt_t, pxD_lt_f, pxD_le_t, pxD_le_f, pxD_eq_t, pxD_eq_f, pxJ_lt, pxJ_le, pxJ_eq, pxJ_div, px_b2, px_bs, px_rb0, px_rb1, pxW_some, Option.some.injEq, pxM_eq, pxM_ne, pyN_gI, pyN_pI, pyN_rc, pyN_g1, pyN_a588, pyN_s588, pyN_g3, pyN_a589, pyN_s589, pyN_g4, pyN_a590, pyN_s590, pyN_g5, pyN_a591, pyN_s591, pyN_g6, pyN_a592, pyN_s592, pyN_g7, pyN_a593, pyN_s593, pyN_g8, pyN_a594, pyN_s594, pyN_g9, pyN_a595, pyN_s595, pyN_g10, pyN_a596, pyN_s596, pyN_g11, pyN_a597, pyN_s597, pyN_g19, pyN_a598, pyN_s598, pyN_g21, pyN_a599, pyN_s599, pyN_g31, pyN_a600, pyN_s600, pyN_g32, pyN_a601, pyN_s601, pyN_g38, pyN_a602, pyN_s602, pyN_g39, pyN_a603, pyN_s603, pyN_g46, pyN_a604, pyN_s604, pyN_g47, pyN_a605, pyN_s605, pyN_g48, pyN_a606, pyN_s606, pyN_g49, pyN_a607, pyN_s607, pyN_g55, pyN_a608, pyN_s608, pyN_g56, pyN_a609, pyN_s609, pyN_g57, pyN_a610, pyN_s610, pyN_g58, pyN_a611, pyN_s611, pyN_g59, pyN_a612, pyN_s612, pyN_g60, pyN_a613, pyN_s613, pyN_g74, pyN_a614, pyN_s614, pyN_g75, pyN_a615, pyN_s615, pyN_g76, pyN_a616, pyN_s616, pyN_g78, pyN_a617, pyN_s617, pyN_g79, pyN_a618, pyN_s618, G.1, na]
  exact pxW_b2 (P) fun v h1 q => pxW_some.mpr (by rw [e]; exact q)
set_option maxHeartbeats 8000000 in
theorem n_act_60 {h : jw_H} {s : List Int} {p f l : Int} {T : pxTx} {S : pxSto} {rep : Bool} (H : pyS h) (G : pyG h s) (X : pyX h T) (Y : pyY h S) (I : pxInv T) (nb : T.2.2.2 ≤ 2000000000) (e42 : pxM h 587 42 = f) (e43 : pxM h 587 43 = l) (e44 : pxM h 587 44 = pyB rep) (rg : pxRgOk (pxP s p) f l T.1.length) (p0 : 0 ≤ p) (ok : (pxAct s p).1 = true) (c : pxP s p = 60) :
    pxW (f_X12_otherAct h 587 (pxJ p)) fun v h' => pyDR h (pxDo s p f l T S rep) v h' := by
  have l60 := G.2.1.1
  have l40 := X.1.2.1
  have IS := Y.1
  have pl := (pxP_lt (s := s) (p := p) (by omega)).2
  have m := G.2.2 p p0 pl
  rw [← pxP_E p0 pl, c] at m
  rw [c] at rg
  unfold pxRgOk at rg
  have nok : (pxNum s (p + 1)).1 = true := by
    unfold pxAct at ok
    rw [c] at ok
    exact ok
  have nvb := pxNumV_b nok
  have na := n_numberAt H G (p := p + 1) (by omega) nok
  have P := n_shift (rep := rep) H G X Y e42 e43 e44 (by omega) (by omega) (by omega) p0 (by omega) ok nok
  rw [c] at P
  rw [if_neg (by decide)] at P
  have e : pxDo s p f l T S rep = pxDoC s p f l T S rep := by unfold pxDo; rw [c]; rfl
  unfold f_X12_otherAct g_X12_otherAct_b19 g_X12_otherAct_b38
  rw [pyN_g21 H, px_bs, pyN_a599 H p0 (by omega), px_bs, m]
  try simp (maxSteps := 4000000) (disch := first | assumption | omega | (simp only [pyS_I]; assumption)) only [pxL0, pxL1, pxL2, pxL3, pxL4, pxL5, pxL6, pxL7, pxL8, pxL9, pxL10, pxL11, pxL12, pxL13, pxL14, pxL15, pxL16, pxL17, pxL18, pxL19, pxL20, pxL21, pxL22, pxL23, pxL24, pxL25, pxL26, pxL27, pxL28, pxL29, pxL30, pxL31, pxL32, pxL33, pxL34, pxL35, pxL36, pxL37, pxL38, pxL39, pxL40, pxL41, pxL42, pxL43, pxL44, pxL45, pxL46, pxL47, pxL48, pxL49, pxL51, pxL57, pxL58, pxL59, pxL60, pxL61, pxL62, pxL63, pxL64, pxL65, pxL66, pxL67, pxL68, pxL69, pxL70, pxL71, pxL72, pxL73, pxL74, pxL75, pxL76, pxL77, pxL78, pxL79, pxL80, pxL81, pxL82, pxL83, pxL84, pxL85, pxL86, pxL87, pxL88, pxL89, pxL90, pxL91, pxL92, pxL93, pxL94, pxL95, pxL96, pxL97, pxL98, pxL99, pxL100, pxL101, pxL102, pxL103, pxL104, pxL105, pxL106, pxL107, pxL108, pxL109, pxL110, pxL111, pxL112, pxL113, pxL114, pxL115, pxL116, pxL117, pxL118, pxL119, pxL120, pxL121, pxL122, pxL123, pxL124, pxL125, pxL126, pxL200, pxL240, pxL287, pxL388, pxL400, pxL429, pxL431, pxL440, pxL1240, pxL1600, pxL1681, pxL12028, pxL13849, pxL14880, pxL25173, pxL26908, pxL49600, pxL65535, pxL65536, ↓reduceIte, reduceCtorEq, pxJ_add, pxJ_sub, pxJ_mul, pxJ_neg, pxD_lt_t, pxD_lt_f, pxD_le_t, pxD_le_f, pxD_eq_t, pxD_eq_f, pxJ_lt, pxJ_le, pxJ_eq, pxJ_div, px_b2, px_bs, px_rb0, px_rb1, pxW_some, Option.some.injEq, pxM_eq, pxM_ne, pyN_gI, pyN_pI, pyN_rc, pyN_g1, pyN_a588, pyN_s588, pyN_g3, pyN_a589, pyN_s589, pyN_g4, pyN_a590, pyN_s590, pyN_g5, pyN_a591, pyN_s591, pyN_g6, pyN_a592, pyN_s592, pyN_g7, pyN_a593, pyN_s593, pyN_g8, pyN_a594, pyN_s594, pyN_g9, pyN_a595, pyN_s595, pyN_g10, pyN_a596, pyN_s596, pyN_g11, pyN_a597, pyN_s597, pyN_g19, pyN_a598, pyN_s598, pyN_g21, pyN_a599, pyN_s599, pyN_g31, pyN_a600, pyN_s600, pyN_g32, pyN_a601, pyN_s601, pyN_g38, pyN_a602, pyN_s602, pyN_g39, pyN_a603, pyN_s603, pyN_g46, pyN_a604, pyN_s604, pyN_g47, pyN_a605, pyN_s605, pyN_g48, pyN_a606, pyN_s606, pyN_g49, pyN_a607, pyN_s607, pyN_g55, pyN_a608, pyN_s608, pyN_g56, pyN_a609, pyN_s609, pyN_g57, pyN_a610, pyN_s610, pyN_g58, pyN_a611, pyN_s611, pyN_g59, pyN_a612, pyN_s612, pyN_g60, pyN_a613, pyN_s613, pyN_g74, pyN_a614, pyN_s614, pyN_g75, pyN_a615, pyN_s615, pyN_g76, pyN_a616, pyN_s616, pyN_g78, pyN_a617, pyN_s617, pyN_g79, pyN_a618, pyN_s618, G.1, na]
  exact pxW_b2 (P) fun v h1 q => pxW_some.mpr (by rw [e]; exact q)
set_option maxHeartbeats 8000000 in
theorem n_act_111 {h : jw_H} {s : List Int} {p f l : Int} {T : pxTx} {S : pxSto} {rep : Bool} (H : pyS h) (G : pyG h s) (X : pyX h T) (Y : pyY h S) (I : pxInv T) (nb : T.2.2.2 ≤ 2000000000) (e42 : pxM h 587 42 = f) (e43 : pxM h 587 43 = l) (e44 : pxM h 587 44 = pyB rep) (rg : pxRgOk (pxP s p) f l T.1.length) (p0 : 0 ≤ p) (ok : (pxAct s p).1 = true) (c : pxP s p = 111) :
    pxW (f_X12_otherAct h 587 (pxJ p)) fun v h' => pyDR h (pxDo s p f l T S rep) v h' := by
  have l60 := G.2.1.1
  have l40 := X.1.2.1
  have IS := Y.1
  have pl := (pxP_lt (s := s) (p := p) (by omega)).2
  have m := G.2.2 p p0 pl
  rw [← pxP_E p0 pl, c] at m
  rw [c] at rg
  unfold pxRgOk at rg
  have nok : (pxNum s (p + 1)).1 = true := by
    unfold pxAct at ok
    rw [c] at ok
    exact ok
  have nvb := pxNumV_b nok
  have na := n_numberAt H G (p := p + 1) (by omega) nok
  have P := n_sort (pl := pxNumV s (p + 1)) (fall := false) H X nvb.1 nvb.2 e42 e43 (by omega) (by omega) (by omega)
  simp only [Bool.false_eq_true, if_false, if_true] at P
  have e : pxDo s p f l T S rep = (pxDoT (0, pxSpSort (pxNumV s (p + 1)) false f l T) S, rep) := by unfold pxDo pxDo1; rw [c]; rfl
  unfold f_X12_otherAct g_X12_otherAct_b54 g_X12_otherAct_b73
  rw [pyN_g21 H, px_bs, pyN_a599 H p0 (by omega), px_bs, m]
  try simp (maxSteps := 4000000) (disch := first | assumption | omega | (simp only [pyS_I]; assumption)) only [pxL0, pxL1, pxL2, pxL3, pxL4, pxL5, pxL6, pxL7, pxL8, pxL9, pxL10, pxL11, pxL12, pxL13, pxL14, pxL15, pxL16, pxL17, pxL18, pxL19, pxL20, pxL21, pxL22, pxL23, pxL24, pxL25, pxL26, pxL27, pxL28, pxL29, pxL30, pxL31, pxL32, pxL33, pxL34, pxL35, pxL36, pxL37, pxL38, pxL39, pxL40, pxL41, pxL42, pxL43, pxL44, pxL45, pxL46, pxL47, pxL48, pxL49, pxL51, pxL57, pxL58, pxL59, pxL60, pxL61, pxL62, pxL63, pxL64, pxL65, pxL66, pxL67, pxL68, pxL69, pxL70, pxL71, pxL72, pxL73, pxL74, pxL75, pxL76, pxL77, pxL78, pxL79, pxL80, pxL81, pxL82, pxL83, pxL84, pxL85, pxL86, pxL87, pxL88, pxL89, pxL90, pxL91, pxL92, pxL93, pxL94, pxL95, pxL96, pxL97, pxL98, pxL99, pxL100, pxL101, pxL102, pxL103, pxL104, pxL105, pxL106, pxL107, pxL108, pxL109, pxL110, pxL111, pxL112, pxL113, pxL114, pxL115, pxL116, pxL117, pxL118, pxL119, pxL120, pxL121, pxL122, pxL123, pxL124, pxL125, pxL126, pxL200, pxL240, pxL287, pxL388, pxL400, pxL429, pxL431, pxL440, pxL1240, pxL1600, pxL1681, pxL12028, pxL13849, pxL14880, pxL25173, pxL26908, pxL49600, pxL65535, pxL65536, ↓reduceIte, reduceCtorEq, pxJ_add, pxJ_sub, pxJ_mul, pxJ_neg, pxD_lt_t, pxD_lt_f, pxD_le_t, pxD_le_f, pxD_eq_t, pxD_eq_f, pxJ_lt, pxJ_le, pxJ_eq, pxJ_div, px_b2, px_bs, px_rb0, px_rb1, pxW_some, Option.some.injEq, pxM_eq, pxM_ne, pyN_gI, pyN_pI, pyN_rc, pyN_g1, pyN_a588, pyN_s588, pyN_g3, pyN_a589, pyN_s589, pyN_g4, pyN_a590, pyN_s590, pyN_g5, pyN_a591, pyN_s591, pyN_g6, pyN_a592, pyN_s592, pyN_g7, pyN_a593, pyN_s593, pyN_g8, pyN_a594, pyN_s594, pyN_g9, pyN_a595, pyN_s595, pyN_g10, pyN_a596, pyN_s596, pyN_g11, pyN_a597, pyN_s597, pyN_g19, pyN_a598, pyN_s598, pyN_g21, pyN_a599, pyN_s599, pyN_g31, pyN_a600, pyN_s600, pyN_g32, pyN_a601, pyN_s601, pyN_g38, pyN_a602, pyN_s602, pyN_g39, pyN_a603, pyN_s603, pyN_g46, pyN_a604, pyN_s604, pyN_g47, pyN_a605, pyN_s605, pyN_g48, pyN_a606, pyN_s606, pyN_g49, pyN_a607, pyN_s607, pyN_g55, pyN_a608, pyN_s608, pyN_g56, pyN_a609, pyN_s609, pyN_g57, pyN_a610, pyN_s610, pyN_g58, pyN_a611, pyN_s611, pyN_g59, pyN_a612, pyN_s612, pyN_g60, pyN_a613, pyN_s613, pyN_g74, pyN_a614, pyN_s614, pyN_g75, pyN_a615, pyN_s615, pyN_g76, pyN_a616, pyN_s616, pyN_g78, pyN_a617, pyN_s617, pyN_g79, pyN_a618, pyN_s618, G.1, na]
  exact pxW_b2 (P) fun v h1 q => pxW_some.mpr (pyDo_fin (pyTR.a q Y) e44 e)
set_option maxHeartbeats 8000000 in
theorem n_act_79 {h : jw_H} {s : List Int} {p f l : Int} {T : pxTx} {S : pxSto} {rep : Bool} (H : pyS h) (G : pyG h s) (X : pyX h T) (Y : pyY h S) (I : pxInv T) (nb : T.2.2.2 ≤ 2000000000) (e42 : pxM h 587 42 = f) (e43 : pxM h 587 43 = l) (e44 : pxM h 587 44 = pyB rep) (rg : pxRgOk (pxP s p) f l T.1.length) (p0 : 0 ≤ p) (ok : (pxAct s p).1 = true) (c : pxP s p = 79) :
    pxW (f_X12_otherAct h 587 (pxJ p)) fun v h' => pyDR h (pxDo s p f l T S rep) v h' := by
  have l60 := G.2.1.1
  have l40 := X.1.2.1
  have IS := Y.1
  have pl := (pxP_lt (s := s) (p := p) (by omega)).2
  have m := G.2.2 p p0 pl
  rw [← pxP_E p0 pl, c] at m
  rw [c] at rg
  unfold pxRgOk at rg
  have nok : (pxNum s (p + 1)).1 = true := by
    unfold pxAct at ok
    rw [c] at ok
    exact ok
  have nvb := pxNumV_b nok
  have na := n_numberAt H G (p := p + 1) (by omega) nok
  have P := n_sort (pl := pxNumV s (p + 1)) (fall := true) H X nvb.1 nvb.2 e42 e43 (by omega) (by omega) (by omega)
  simp only [Bool.false_eq_true, if_false, if_true] at P
  have e : pxDo s p f l T S rep = (pxDoT (0, pxSpSort (pxNumV s (p + 1)) true f l T) S, rep) := by unfold pxDo pxDo1; rw [c]; rfl
  unfold f_X12_otherAct g_X12_otherAct_b54 g_X12_otherAct_b73
  rw [pyN_g21 H, px_bs, pyN_a599 H p0 (by omega), px_bs, m]
  try simp (maxSteps := 4000000) (disch := first | assumption | omega | (simp only [pyS_I]; assumption)) only [pxL0, pxL1, pxL2, pxL3, pxL4, pxL5, pxL6, pxL7, pxL8, pxL9, pxL10, pxL11, pxL12, pxL13, pxL14, pxL15, pxL16, pxL17, pxL18, pxL19, pxL20, pxL21, pxL22, pxL23, pxL24, pxL25, pxL26, pxL27, pxL28, pxL29, pxL30, pxL31, pxL32, pxL33, pxL34, pxL35, pxL36, pxL37, pxL38, pxL39, pxL40, pxL41, pxL42, pxL43, pxL44, pxL45, pxL46, pxL47, pxL48, pxL49, pxL51, pxL57, pxL58, pxL59, pxL60, pxL61, pxL62, pxL63, pxL64, pxL65, pxL66, pxL67, pxL68, pxL69, pxL70, pxL71, pxL72, pxL73, pxL74, pxL75, pxL76, pxL77, pxL78, pxL79, pxL80, pxL81, pxL82, pxL83, pxL84, pxL85, pxL86, pxL87, pxL88, pxL89, pxL90, pxL91, pxL92, pxL93, pxL94, pxL95, pxL96, pxL97, pxL98, pxL99, pxL100, pxL101, pxL102, pxL103, pxL104, pxL105, pxL106, pxL107, pxL108, pxL109, pxL110, pxL111, pxL112, pxL113, pxL114, pxL115, pxL116, pxL117, pxL118, pxL119, pxL120, pxL121, pxL122, pxL123, pxL124, pxL125, pxL126, pxL200, pxL240, pxL287, pxL388, pxL400, pxL429, pxL431, pxL440, pxL1240, pxL1600, pxL1681, pxL12028, pxL13849, pxL14880, pxL25173, pxL26908, pxL49600, pxL65535, pxL65536, ↓reduceIte, reduceCtorEq, pxJ_add, pxJ_sub, pxJ_mul, pxJ_neg, pxD_lt_t, pxD_lt_f, pxD_le_t, pxD_le_f, pxD_eq_t, pxD_eq_f, pxJ_lt, pxJ_le, pxJ_eq, pxJ_div, px_b2, px_bs, px_rb0, px_rb1, pxW_some, Option.some.injEq, pxM_eq, pxM_ne, pyN_gI, pyN_pI, pyN_rc, pyN_g1, pyN_a588, pyN_s588, pyN_g3, pyN_a589, pyN_s589, pyN_g4, pyN_a590, pyN_s590, pyN_g5, pyN_a591, pyN_s591, pyN_g6, pyN_a592, pyN_s592, pyN_g7, pyN_a593, pyN_s593, pyN_g8, pyN_a594, pyN_s594, pyN_g9, pyN_a595, pyN_s595, pyN_g10, pyN_a596, pyN_s596, pyN_g11, pyN_a597, pyN_s597, pyN_g19, pyN_a598, pyN_s598, pyN_g21, pyN_a599, pyN_s599, pyN_g31, pyN_a600, pyN_s600, pyN_g32, pyN_a601, pyN_s601, pyN_g38, pyN_a602, pyN_s602, pyN_g39, pyN_a603, pyN_s603, pyN_g46, pyN_a604, pyN_s604, pyN_g47, pyN_a605, pyN_s605, pyN_g48, pyN_a606, pyN_s606, pyN_g49, pyN_a607, pyN_s607, pyN_g55, pyN_a608, pyN_s608, pyN_g56, pyN_a609, pyN_s609, pyN_g57, pyN_a610, pyN_s610, pyN_g58, pyN_a611, pyN_s611, pyN_g59, pyN_a612, pyN_s612, pyN_g60, pyN_a613, pyN_s613, pyN_g74, pyN_a614, pyN_s614, pyN_g75, pyN_a615, pyN_s615, pyN_g76, pyN_a616, pyN_s616, pyN_g78, pyN_a617, pyN_s617, pyN_g79, pyN_a618, pyN_s618, G.1, na]
  exact pxW_b2 (P) fun v h1 q => pxW_some.mpr (pyDo_fin (pyTR.a q Y) e44 e)
set_option maxHeartbeats 8000000 in
theorem n_act_109 {h : jw_H} {s : List Int} {p f l : Int} {T : pxTx} {S : pxSto} {rep : Bool} (H : pyS h) (G : pyG h s) (X : pyX h T) (Y : pyY h S) (I : pxInv T) (nb : T.2.2.2 ≤ 2000000000) (e42 : pxM h 587 42 = f) (e43 : pxM h 587 43 = l) (e44 : pxM h 587 44 = pyB rep) (rg : pxRgOk (pxP s p) f l T.1.length) (p0 : 0 ≤ p) (ok : (pxAct s p).1 = true) (c : pxP s p = 109) :
    pxW (f_X12_otherAct h 587 (pxJ p)) fun v h' => pyDR h (pxDo s p f l T S rep) v h' := by
  have l60 := G.2.1.1
  have l40 := X.1.2.1
  have IS := Y.1
  have pl := (pxP_lt (s := s) (p := p) (by omega)).2
  have m := G.2.2 p p0 pl
  rw [← pxP_E p0 pl, c] at m
  rw [c] at rg
  unfold pxRgOk at rg
  have aok : (pxAddr s (p + 1)).1 = true := by
    unfold pxAct at ok
    rw [c] at ok
    exact ok
  have e : pxDo s p f l T S rep = (pxDoT (pxSpMove f l (pxLoc s (p + 1) T) T) S, rep) := by unfold pxDo pxDo1; rw [c]; rfl
  unfold f_X12_otherAct
  rw [pyN_g21 H, px_bs, pyN_a599 H p0 (by omega), px_bs, m]
  try simp (maxSteps := 4000000) (disch := first | assumption | omega | (simp only [pyS_I]; assumption)) only [pxL0, pxL1, pxL2, pxL3, pxL4, pxL5, pxL6, pxL7, pxL8, pxL9, pxL10, pxL11, pxL12, pxL13, pxL14, pxL15, pxL16, pxL17, pxL18, pxL19, pxL20, pxL21, pxL22, pxL23, pxL24, pxL25, pxL26, pxL27, pxL28, pxL29, pxL30, pxL31, pxL32, pxL33, pxL34, pxL35, pxL36, pxL37, pxL38, pxL39, pxL40, pxL41, pxL42, pxL43, pxL44, pxL45, pxL46, pxL47, pxL48, pxL49, pxL51, pxL57, pxL58, pxL59, pxL60, pxL61, pxL62, pxL63, pxL64, pxL65, pxL66, pxL67, pxL68, pxL69, pxL70, pxL71, pxL72, pxL73, pxL74, pxL75, pxL76, pxL77, pxL78, pxL79, pxL80, pxL81, pxL82, pxL83, pxL84, pxL85, pxL86, pxL87, pxL88, pxL89, pxL90, pxL91, pxL92, pxL93, pxL94, pxL95, pxL96, pxL97, pxL98, pxL99, pxL100, pxL101, pxL102, pxL103, pxL104, pxL105, pxL106, pxL107, pxL108, pxL109, pxL110, pxL111, pxL112, pxL113, pxL114, pxL115, pxL116, pxL117, pxL118, pxL119, pxL120, pxL121, pxL122, pxL123, pxL124, pxL125, pxL126, pxL200, pxL240, pxL287, pxL388, pxL400, pxL429, pxL431, pxL440, pxL1240, pxL1600, pxL1681, pxL12028, pxL13849, pxL14880, pxL25173, pxL26908, pxL49600, pxL65535, pxL65536, ↓reduceIte, reduceCtorEq, pxJ_add, pxJ_sub, pxJ_mul, pxJ_neg, pxD_lt_t, pxD_lt_f, pxD_le_t, pxD_le_f, pxD_eq_t, pxD_eq_f, pxJ_lt, pxJ_le, pxJ_eq, pxJ_div, px_b2, px_bs, px_rb0, px_rb1, pxW_some, Option.some.injEq, pxM_eq, pxM_ne, pyN_gI, pyN_pI, pyN_rc, pyN_g1, pyN_a588, pyN_s588, pyN_g3, pyN_a589, pyN_s589, pyN_g4, pyN_a590, pyN_s590, pyN_g5, pyN_a591, pyN_s591, pyN_g6, pyN_a592, pyN_s592, pyN_g7, pyN_a593, pyN_s593, pyN_g8, pyN_a594, pyN_s594, pyN_g9, pyN_a595, pyN_s595, pyN_g10, pyN_a596, pyN_s596, pyN_g11, pyN_a597, pyN_s597, pyN_g19, pyN_a598, pyN_s598, pyN_g21, pyN_a599, pyN_s599, pyN_g31, pyN_a600, pyN_s600, pyN_g32, pyN_a601, pyN_s601, pyN_g38, pyN_a602, pyN_s602, pyN_g39, pyN_a603, pyN_s603, pyN_g46, pyN_a604, pyN_s604, pyN_g47, pyN_a605, pyN_s605, pyN_g48, pyN_a606, pyN_s606, pyN_g49, pyN_a607, pyN_s607, pyN_g55, pyN_a608, pyN_s608, pyN_g56, pyN_a609, pyN_s609, pyN_g57, pyN_a610, pyN_s610, pyN_g58, pyN_a611, pyN_s611, pyN_g59, pyN_a612, pyN_s612, pyN_g60, pyN_a613, pyN_s613, pyN_g74, pyN_a614, pyN_s614, pyN_g75, pyN_a615, pyN_s615, pyN_g76, pyN_a616, pyN_s616, pyN_g78, pyN_a617, pyN_s617, pyN_g79, pyN_a618, pyN_s618, G.1]
  exact pxW_b2 (n_move (q := p + 1) H G X Y I nb e42 e43 (by omega) (by omega) (by omega) (by omega) (by omega) aok) fun v h1 q => pxW_some.mpr (pyDo_fin q e44 e)
set_option maxHeartbeats 8000000 in
theorem n_act_116 {h : jw_H} {s : List Int} {p f l : Int} {T : pxTx} {S : pxSto} {rep : Bool} (H : pyS h) (G : pyG h s) (X : pyX h T) (Y : pyY h S) (I : pxInv T) (nb : T.2.2.2 ≤ 2000000000) (e42 : pxM h 587 42 = f) (e43 : pxM h 587 43 = l) (e44 : pxM h 587 44 = pyB rep) (rg : pxRgOk (pxP s p) f l T.1.length) (p0 : 0 ≤ p) (ok : (pxAct s p).1 = true) (c : pxP s p = 116) :
    pxW (f_X12_otherAct h 587 (pxJ p)) fun v h' => pyDR h (pxDo s p f l T S rep) v h' := by
  have l60 := G.2.1.1
  have l40 := X.1.2.1
  have IS := Y.1
  have pl := (pxP_lt (s := s) (p := p) (by omega)).2
  have m := G.2.2 p p0 pl
  rw [← pxP_E p0 pl, c] at m
  rw [c] at rg
  unfold pxRgOk at rg
  have aok : (pxAddr s (p + 1)).1 = true := by
    unfold pxAct at ok
    rw [c] at ok
    exact ok
  have e : pxDo s p f l T S rep = (pxDoT (pxSpCopy f l (pxLoc s (p + 1) T) T) S, rep) := by unfold pxDo pxDo1; rw [c]; rfl
  unfold f_X12_otherAct
  rw [pyN_g21 H, px_bs, pyN_a599 H p0 (by omega), px_bs, m]
  try simp (maxSteps := 4000000) (disch := first | assumption | omega | (simp only [pyS_I]; assumption)) only [pxL0, pxL1, pxL2, pxL3, pxL4, pxL5, pxL6, pxL7, pxL8, pxL9, pxL10, pxL11, pxL12, pxL13, pxL14, pxL15, pxL16, pxL17, pxL18, pxL19, pxL20, pxL21, pxL22, pxL23, pxL24, pxL25, pxL26, pxL27, pxL28, pxL29, pxL30, pxL31, pxL32, pxL33, pxL34, pxL35, pxL36, pxL37, pxL38, pxL39, pxL40, pxL41, pxL42, pxL43, pxL44, pxL45, pxL46, pxL47, pxL48, pxL49, pxL51, pxL57, pxL58, pxL59, pxL60, pxL61, pxL62, pxL63, pxL64, pxL65, pxL66, pxL67, pxL68, pxL69, pxL70, pxL71, pxL72, pxL73, pxL74, pxL75, pxL76, pxL77, pxL78, pxL79, pxL80, pxL81, pxL82, pxL83, pxL84, pxL85, pxL86, pxL87, pxL88, pxL89, pxL90, pxL91, pxL92, pxL93, pxL94, pxL95, pxL96, pxL97, pxL98, pxL99, pxL100, pxL101, pxL102, pxL103, pxL104, pxL105, pxL106, pxL107, pxL108, pxL109, pxL110, pxL111, pxL112, pxL113, pxL114, pxL115, pxL116, pxL117, pxL118, pxL119, pxL120, pxL121, pxL122, pxL123, pxL124, pxL125, pxL126, pxL200, pxL240, pxL287, pxL388, pxL400, pxL429, pxL431, pxL440, pxL1240, pxL1600, pxL1681, pxL12028, pxL13849, pxL14880, pxL25173, pxL26908, pxL49600, pxL65535, pxL65536, ↓reduceIte, reduceCtorEq, pxJ_add, pxJ_sub, pxJ_mul, pxJ_neg, pxD_lt_t, pxD_lt_f, pxD_le_t, pxD_le_f, pxD_eq_t, pxD_eq_f, pxJ_lt, pxJ_le, pxJ_eq, pxJ_div, px_b2, px_bs, px_rb0, px_rb1, pxW_some, Option.some.injEq, pxM_eq, pxM_ne, pyN_gI, pyN_pI, pyN_rc, pyN_g1, pyN_a588, pyN_s588, pyN_g3, pyN_a589, pyN_s589, pyN_g4, pyN_a590, pyN_s590, pyN_g5, pyN_a591, pyN_s591, pyN_g6, pyN_a592, pyN_s592, pyN_g7, pyN_a593, pyN_s593, pyN_g8, pyN_a594, pyN_s594, pyN_g9, pyN_a595, pyN_s595, pyN_g10, pyN_a596, pyN_s596, pyN_g11, pyN_a597, pyN_s597, pyN_g19, pyN_a598, pyN_s598, pyN_g21, pyN_a599, pyN_s599, pyN_g31, pyN_a600, pyN_s600, pyN_g32, pyN_a601, pyN_s601, pyN_g38, pyN_a602, pyN_s602, pyN_g39, pyN_a603, pyN_s603, pyN_g46, pyN_a604, pyN_s604, pyN_g47, pyN_a605, pyN_s605, pyN_g48, pyN_a606, pyN_s606, pyN_g49, pyN_a607, pyN_s607, pyN_g55, pyN_a608, pyN_s608, pyN_g56, pyN_a609, pyN_s609, pyN_g57, pyN_a610, pyN_s610, pyN_g58, pyN_a611, pyN_s611, pyN_g59, pyN_a612, pyN_s612, pyN_g60, pyN_a613, pyN_s613, pyN_g74, pyN_a614, pyN_s614, pyN_g75, pyN_a615, pyN_s615, pyN_g76, pyN_a616, pyN_s616, pyN_g78, pyN_a617, pyN_s617, pyN_g79, pyN_a618, pyN_s618, G.1]
  exact pxW_b2 (n_copyTo (q := p + 1) H G X Y I nb e42 e43 (by omega) (by omega) (by omega) (by omega) (by omega) aok) fun v h1 q => pxW_some.mpr (pyDo_fin q e44 e)
set_option maxHeartbeats 8000000 in
theorem n_act_115 {h : jw_H} {s : List Int} {p f l : Int} {T : pxTx} {S : pxSto} {rep : Bool} (H : pyS h) (G : pyG h s) (X : pyX h T) (Y : pyY h S) (I : pxInv T) (nb : T.2.2.2 ≤ 2000000000) (e42 : pxM h 587 42 = f) (e43 : pxM h 587 43 = l) (e44 : pxM h 587 44 = pyB rep) (rg : pxRgOk (pxP s p) f l T.1.length) (p0 : 0 ≤ p) (ok : (pxAct s p).1 = true) (nz : pxP s p = 115 → pxP s (pxRep s (p + 1)).2 ≠ 48) (c : pxP s p = 115) :
    pxW (f_X12_otherAct h 587 (pxJ p)) fun v h' => pyDR h (pxDo s p f l T S rep) v h' := by
  have l60 := G.2.1.1
  have l40 := X.1.2.1
  have IS := Y.1
  have pl := (pxP_lt (s := s) (p := p) (by omega)).2
  have m := G.2.2 p p0 pl
  rw [← pxP_E p0 pl, c] at m
  rw [c] at rg
  unfold pxRgOk at rg
  have rok : (pxRep s (p + 1)).1 = true := by
    unfold pxAct at ok
    rw [c] at ok
    exact ok
  have P := n_replaceAll (rep := rep) H G X Y e42 e43 e44 (by omega) (by omega) (by omega) p0 c ok rok (nz c)
  have e : pxDo s p f l T S rep = pxDoC s p f l T S rep := by unfold pxDo; rw [c]; rfl
  unfold f_X12_otherAct
  rw [pyN_g21 H, px_bs, pyN_a599 H p0 (by omega), px_bs, m]
  try simp (maxSteps := 4000000) (disch := first | assumption | omega | (simp only [pyS_I]; assumption)) only [pxL0, pxL1, pxL2, pxL3, pxL4, pxL5, pxL6, pxL7, pxL8, pxL9, pxL10, pxL11, pxL12, pxL13, pxL14, pxL15, pxL16, pxL17, pxL18, pxL19, pxL20, pxL21, pxL22, pxL23, pxL24, pxL25, pxL26, pxL27, pxL28, pxL29, pxL30, pxL31, pxL32, pxL33, pxL34, pxL35, pxL36, pxL37, pxL38, pxL39, pxL40, pxL41, pxL42, pxL43, pxL44, pxL45, pxL46, pxL47, pxL48, pxL49, pxL51, pxL57, pxL58, pxL59, pxL60, pxL61, pxL62, pxL63, pxL64, pxL65, pxL66, pxL67, pxL68, pxL69, pxL70, pxL71, pxL72, pxL73, pxL74, pxL75, pxL76, pxL77, pxL78, pxL79, pxL80, pxL81, pxL82, pxL83, pxL84, pxL85, pxL86, pxL87, pxL88, pxL89, pxL90, pxL91, pxL92, pxL93, pxL94, pxL95, pxL96, pxL97, pxL98, pxL99, pxL100, pxL101, pxL102, pxL103, pxL104, pxL105, pxL106, pxL107, pxL108, pxL109, pxL110, pxL111, pxL112, pxL113, pxL114, pxL115, pxL116, pxL117, pxL118, pxL119, pxL120, pxL121, pxL122, pxL123, pxL124, pxL125, pxL126, pxL200, pxL240, pxL287, pxL388, pxL400, pxL429, pxL431, pxL440, pxL1240, pxL1600, pxL1681, pxL12028, pxL13849, pxL14880, pxL25173, pxL26908, pxL49600, pxL65535, pxL65536, ↓reduceIte, reduceCtorEq, pxJ_add, pxJ_sub, pxJ_mul, pxJ_neg, pxD_lt_t, pxD_lt_f, pxD_le_t, pxD_le_f, pxD_eq_t, pxD_eq_f, pxJ_lt, pxJ_le, pxJ_eq, pxJ_div, px_b2, px_bs, px_rb0, px_rb1, pxW_some, Option.some.injEq, pxM_eq, pxM_ne, pyN_gI, pyN_pI, pyN_rc, pyN_g1, pyN_a588, pyN_s588, pyN_g3, pyN_a589, pyN_s589, pyN_g4, pyN_a590, pyN_s590, pyN_g5, pyN_a591, pyN_s591, pyN_g6, pyN_a592, pyN_s592, pyN_g7, pyN_a593, pyN_s593, pyN_g8, pyN_a594, pyN_s594, pyN_g9, pyN_a595, pyN_s595, pyN_g10, pyN_a596, pyN_s596, pyN_g11, pyN_a597, pyN_s597, pyN_g19, pyN_a598, pyN_s598, pyN_g21, pyN_a599, pyN_s599, pyN_g31, pyN_a600, pyN_s600, pyN_g32, pyN_a601, pyN_s601, pyN_g38, pyN_a602, pyN_s602, pyN_g39, pyN_a603, pyN_s603, pyN_g46, pyN_a604, pyN_s604, pyN_g47, pyN_a605, pyN_s605, pyN_g48, pyN_a606, pyN_s606, pyN_g49, pyN_a607, pyN_s607, pyN_g55, pyN_a608, pyN_s608, pyN_g56, pyN_a609, pyN_s609, pyN_g57, pyN_a610, pyN_s610, pyN_g58, pyN_a611, pyN_s611, pyN_g59, pyN_a612, pyN_s612, pyN_g60, pyN_a613, pyN_s613, pyN_g74, pyN_a614, pyN_s614, pyN_g75, pyN_a615, pyN_s615, pyN_g76, pyN_a616, pyN_s616, pyN_g78, pyN_a617, pyN_s617, pyN_g79, pyN_a618, pyN_s618, G.1]
  exact pxW_b2 (P) fun v h1 q => pxW_some.mpr (by rw [e]; exact q)
set_option maxHeartbeats 8000000 in
theorem n_act_122 {h : jw_H} {s : List Int} {p f l : Int} {T : pxTx} {S : pxSto} {rep : Bool} (H : pyS h) (G : pyG h s) (X : pyX h T) (Y : pyY h S) (I : pxInv T) (nb : T.2.2.2 ≤ 2000000000) (e42 : pxM h 587 42 = f) (e43 : pxM h 587 43 = l) (e44 : pxM h 587 44 = pyB rep) (rg : pxRgOk (pxP s p) f l T.1.length) (p0 : 0 ≤ p) (ok : (pxAct s p).1 = true) (c : pxP s p = 122) :
    pxW (f_X12_otherAct h 587 (pxJ p)) fun v h' => pyDR h (pxDo s p f l T S rep) v h' := by
  have l60 := G.2.1.1
  have l40 := X.1.2.1
  have IS := Y.1
  have pl := (pxP_lt (s := s) (p := p) (by omega)).2
  have m := G.2.2 p p0 pl
  rw [← pxP_E p0 pl, c] at m
  rw [c] at rg
  unfold pxRgOk at rg
  have tok : (pxTrn s (p + 1)).1 = true := by
    unfold pxAct at ok
    rw [c] at ok
    exact ok
  have P := n_turnAll (rep := rep) H G X Y e42 e43 e44 (by omega) (by omega) (by omega) p0 c ok tok
  have e : pxDo s p f l T S rep = pxDoC s p f l T S rep := by unfold pxDo; rw [c]; rfl
  unfold f_X12_otherAct
  rw [pyN_g21 H, px_bs, pyN_a599 H p0 (by omega), px_bs, m]
  try simp (maxSteps := 4000000) (disch := first | assumption | omega | (simp only [pyS_I]; assumption)) only [pxL0, pxL1, pxL2, pxL3, pxL4, pxL5, pxL6, pxL7, pxL8, pxL9, pxL10, pxL11, pxL12, pxL13, pxL14, pxL15, pxL16, pxL17, pxL18, pxL19, pxL20, pxL21, pxL22, pxL23, pxL24, pxL25, pxL26, pxL27, pxL28, pxL29, pxL30, pxL31, pxL32, pxL33, pxL34, pxL35, pxL36, pxL37, pxL38, pxL39, pxL40, pxL41, pxL42, pxL43, pxL44, pxL45, pxL46, pxL47, pxL48, pxL49, pxL51, pxL57, pxL58, pxL59, pxL60, pxL61, pxL62, pxL63, pxL64, pxL65, pxL66, pxL67, pxL68, pxL69, pxL70, pxL71, pxL72, pxL73, pxL74, pxL75, pxL76, pxL77, pxL78, pxL79, pxL80, pxL81, pxL82, pxL83, pxL84, pxL85, pxL86, pxL87, pxL88, pxL89, pxL90, pxL91, pxL92, pxL93, pxL94, pxL95, pxL96, pxL97, pxL98, pxL99, pxL100, pxL101, pxL102, pxL103, pxL104, pxL105, pxL106, pxL107, pxL108, pxL109, pxL110, pxL111, pxL112, pxL113, pxL114, pxL115, pxL116, pxL117, pxL118, pxL119, pxL120, pxL121, pxL122, pxL123, pxL124, pxL125, pxL126, pxL200, pxL240, pxL287, pxL388, pxL400, pxL429, pxL431, pxL440, pxL1240, pxL1600, pxL1681, pxL12028, pxL13849, pxL14880, pxL25173, pxL26908, pxL49600, pxL65535, pxL65536, ↓reduceIte, reduceCtorEq, pxJ_add, pxJ_sub, pxJ_mul, pxJ_neg, pxD_lt_t, pxD_lt_f, pxD_le_t, pxD_le_f, pxD_eq_t, pxD_eq_f, pxJ_lt, pxJ_le, pxJ_eq, pxJ_div, px_b2, px_bs, px_rb0, px_rb1, pxW_some, Option.some.injEq, pxM_eq, pxM_ne, pyN_gI, pyN_pI, pyN_rc, pyN_g1, pyN_a588, pyN_s588, pyN_g3, pyN_a589, pyN_s589, pyN_g4, pyN_a590, pyN_s590, pyN_g5, pyN_a591, pyN_s591, pyN_g6, pyN_a592, pyN_s592, pyN_g7, pyN_a593, pyN_s593, pyN_g8, pyN_a594, pyN_s594, pyN_g9, pyN_a595, pyN_s595, pyN_g10, pyN_a596, pyN_s596, pyN_g11, pyN_a597, pyN_s597, pyN_g19, pyN_a598, pyN_s598, pyN_g21, pyN_a599, pyN_s599, pyN_g31, pyN_a600, pyN_s600, pyN_g32, pyN_a601, pyN_s601, pyN_g38, pyN_a602, pyN_s602, pyN_g39, pyN_a603, pyN_s603, pyN_g46, pyN_a604, pyN_s604, pyN_g47, pyN_a605, pyN_s605, pyN_g48, pyN_a606, pyN_s606, pyN_g49, pyN_a607, pyN_s607, pyN_g55, pyN_a608, pyN_s608, pyN_g56, pyN_a609, pyN_s609, pyN_g57, pyN_a610, pyN_s610, pyN_g58, pyN_a611, pyN_s611, pyN_g59, pyN_a612, pyN_s612, pyN_g60, pyN_a613, pyN_s613, pyN_g74, pyN_a614, pyN_s614, pyN_g75, pyN_a615, pyN_s615, pyN_g76, pyN_a616, pyN_s616, pyN_g78, pyN_a617, pyN_s617, pyN_g79, pyN_a618, pyN_s618, G.1]
  exact pxW_b2 (P) fun v h1 q => pxW_some.mpr (by rw [e]; exact q)
set_option maxHeartbeats 8000000 in
theorem n_act_114 {h : jw_H} {s : List Int} {p f l : Int} {T : pxTx} {S : pxSto} {rep : Bool} (H : pyS h) (G : pyG h s) (X : pyX h T) (Y : pyY h S) (I : pxInv T) (nb : T.2.2.2 ≤ 2000000000) (e42 : pxM h 587 42 = f) (e43 : pxM h 587 43 = l) (e44 : pxM h 587 44 = pyB rep) (rg : pxRgOk (pxP s p) f l T.1.length) (p0 : 0 ≤ p) (ok : (pxAct s p).1 = true) (c : pxP s p = 114) :
    pxW (f_X12_otherAct h 587 (pxJ p)) fun v h' => pyDR h (pxDo s p f l T S rep) v h' := by
  have l60 := G.2.1.1
  have l40 := X.1.2.1
  have IS := Y.1
  have pl := (pxP_lt (s := s) (p := p) (by omega)).2
  have m := G.2.2 p p0 pl
  rw [← pxP_E p0 pl, c] at m
  rw [c] at rg
  unfold pxRgOk at rg
  have dg : 48 ≤ pxP s (p + 1) ∧ pxP s (p + 1) ≤ 51 := by
    unfold pxAct at ok
    rw [c] at ok
    by_cases d : 48 ≤ pxP s (p + 1) ∧ pxP s (p + 1) ≤ 51
    · exact d
    · have ok' : (if 48 ≤ pxP s (p + 1) ∧ pxP s (p + 1) ≤ 51 then (true, p + 2) else (false, p + 1)).1 = true := ok
      rw [if_neg d] at ok'; cases ok'
  have pl1 := (pxP_lt (s := s) (p := p + 1) (by omega)).2
  have m1 := G.2.2 (p + 1) (by omega) pl1
  rw [← pxP_E (by omega) pl1] at m1
  have e : pxDo s p f l T S rep = (pxDoT (pxSpRead f l (S.2.2 (pxP s (p + 1) - 48)) T) S, rep) := by unfold pxDo pxDo1; rw [c]; rfl
  unfold f_X12_otherAct
  rw [pyN_g21 H, px_bs, pyN_a599 H p0 (by omega), px_bs, m]
  try simp (maxSteps := 4000000) (disch := first | assumption | omega | (simp only [pyS_I]; assumption)) only [pxL0, pxL1, pxL2, pxL3, pxL4, pxL5, pxL6, pxL7, pxL8, pxL9, pxL10, pxL11, pxL12, pxL13, pxL14, pxL15, pxL16, pxL17, pxL18, pxL19, pxL20, pxL21, pxL22, pxL23, pxL24, pxL25, pxL26, pxL27, pxL28, pxL29, pxL30, pxL31, pxL32, pxL33, pxL34, pxL35, pxL36, pxL37, pxL38, pxL39, pxL40, pxL41, pxL42, pxL43, pxL44, pxL45, pxL46, pxL47, pxL48, pxL49, pxL51, pxL57, pxL58, pxL59, pxL60, pxL61, pxL62, pxL63, pxL64, pxL65, pxL66, pxL67, pxL68, pxL69, pxL70, pxL71, pxL72, pxL73, pxL74, pxL75, pxL76, pxL77, pxL78, pxL79, pxL80, pxL81, pxL82, pxL83, pxL84, pxL85, pxL86, pxL87, pxL88, pxL89, pxL90, pxL91, pxL92, pxL93, pxL94, pxL95, pxL96, pxL97, pxL98, pxL99, pxL100, pxL101, pxL102, pxL103, pxL104, pxL105, pxL106, pxL107, pxL108, pxL109, pxL110, pxL111, pxL112, pxL113, pxL114, pxL115, pxL116, pxL117, pxL118, pxL119, pxL120, pxL121, pxL122, pxL123, pxL124, pxL125, pxL126, pxL200, pxL240, pxL287, pxL388, pxL400, pxL429, pxL431, pxL440, pxL1240, pxL1600, pxL1681, pxL12028, pxL13849, pxL14880, pxL25173, pxL26908, pxL49600, pxL65535, pxL65536, ↓reduceIte, reduceCtorEq, pxJ_add, pxJ_sub, pxJ_mul, pxJ_neg, pxD_lt_t, pxD_lt_f, pxD_le_t, pxD_le_f, pxD_eq_t, pxD_eq_f, pxJ_lt, pxJ_le, pxJ_eq, pxJ_div, px_b2, px_bs, px_rb0, px_rb1, pxW_some, Option.some.injEq, pxM_eq, pxM_ne, pyN_gI, pyN_pI, pyN_rc, pyN_g1, pyN_a588, pyN_s588, pyN_g3, pyN_a589, pyN_s589, pyN_g4, pyN_a590, pyN_s590, pyN_g5, pyN_a591, pyN_s591, pyN_g6, pyN_a592, pyN_s592, pyN_g7, pyN_a593, pyN_s593, pyN_g8, pyN_a594, pyN_s594, pyN_g9, pyN_a595, pyN_s595, pyN_g10, pyN_a596, pyN_s596, pyN_g11, pyN_a597, pyN_s597, pyN_g19, pyN_a598, pyN_s598, pyN_g21, pyN_a599, pyN_s599, pyN_g31, pyN_a600, pyN_s600, pyN_g32, pyN_a601, pyN_s601, pyN_g38, pyN_a602, pyN_s602, pyN_g39, pyN_a603, pyN_s603, pyN_g46, pyN_a604, pyN_s604, pyN_g47, pyN_a605, pyN_s605, pyN_g48, pyN_a606, pyN_s606, pyN_g49, pyN_a607, pyN_s607, pyN_g55, pyN_a608, pyN_s608, pyN_g56, pyN_a609, pyN_s609, pyN_g57, pyN_a610, pyN_s610, pyN_g58, pyN_a611, pyN_s611, pyN_g59, pyN_a612, pyN_s612, pyN_g60, pyN_a613, pyN_s613, pyN_g74, pyN_a614, pyN_s614, pyN_g75, pyN_a615, pyN_s615, pyN_g76, pyN_a616, pyN_s616, pyN_g78, pyN_a617, pyN_s617, pyN_g79, pyN_a618, pyN_s618, G.1, m1]
  exact pxW_b2 (n_readFile (f := f) (k := pxP s (p + 1) - 48) H X Y I nb e43 (by omega) (by omega) (by omega) (by omega)) fun v h1 q => pxW_some.mpr (pyDo_fin q e44 e)
set_option maxHeartbeats 8000000 in
theorem n_act_119 {h : jw_H} {s : List Int} {p f l : Int} {T : pxTx} {S : pxSto} {rep : Bool} (H : pyS h) (G : pyG h s) (X : pyX h T) (Y : pyY h S) (I : pxInv T) (nb : T.2.2.2 ≤ 2000000000) (e42 : pxM h 587 42 = f) (e43 : pxM h 587 43 = l) (e44 : pxM h 587 44 = pyB rep) (rg : pxRgOk (pxP s p) f l T.1.length) (p0 : 0 ≤ p) (ok : (pxAct s p).1 = true) (c : pxP s p = 119) :
    pxW (f_X12_otherAct h 587 (pxJ p)) fun v h' => pyDR h (pxDo s p f l T S rep) v h' := by
  have l60 := G.2.1.1
  have l40 := X.1.2.1
  have IS := Y.1
  have pl := (pxP_lt (s := s) (p := p) (by omega)).2
  have m := G.2.2 p p0 pl
  rw [← pxP_E p0 pl, c] at m
  rw [c] at rg
  unfold pxRgOk at rg
  have dg : 48 ≤ pxP s (p + 1) ∧ pxP s (p + 1) ≤ 51 := by
    unfold pxAct at ok
    rw [c] at ok
    by_cases d : 48 ≤ pxP s (p + 1) ∧ pxP s (p + 1) ≤ 51
    · exact d
    · have ok' : (if 48 ≤ pxP s (p + 1) ∧ pxP s (p + 1) ≤ 51 then (true, p + 2) else (false, p + 1)).1 = true := ok
      rw [if_neg d] at ok'; cases ok'
  have pl1 := (pxP_lt (s := s) (p := p + 1) (by omega)).2
  have m1 := G.2.2 (p + 1) (by omega) pl1
  rw [← pxP_E (by omega) pl1] at m1
  have e : pxDo s p f l T S rep = (pxSpWrite (pxP s (p + 1) - 48) f l T S, rep) := by unfold pxDo pxDo1 pxSpTell; rw [c]; rfl
  unfold f_X12_otherAct
  rw [pyN_g21 H, px_bs, pyN_a599 H p0 (by omega), px_bs, m]
  try simp (maxSteps := 4000000) (disch := first | assumption | omega | (simp only [pyS_I]; assumption)) only [pxL0, pxL1, pxL2, pxL3, pxL4, pxL5, pxL6, pxL7, pxL8, pxL9, pxL10, pxL11, pxL12, pxL13, pxL14, pxL15, pxL16, pxL17, pxL18, pxL19, pxL20, pxL21, pxL22, pxL23, pxL24, pxL25, pxL26, pxL27, pxL28, pxL29, pxL30, pxL31, pxL32, pxL33, pxL34, pxL35, pxL36, pxL37, pxL38, pxL39, pxL40, pxL41, pxL42, pxL43, pxL44, pxL45, pxL46, pxL47, pxL48, pxL49, pxL51, pxL57, pxL58, pxL59, pxL60, pxL61, pxL62, pxL63, pxL64, pxL65, pxL66, pxL67, pxL68, pxL69, pxL70, pxL71, pxL72, pxL73, pxL74, pxL75, pxL76, pxL77, pxL78, pxL79, pxL80, pxL81, pxL82, pxL83, pxL84, pxL85, pxL86, pxL87, pxL88, pxL89, pxL90, pxL91, pxL92, pxL93, pxL94, pxL95, pxL96, pxL97, pxL98, pxL99, pxL100, pxL101, pxL102, pxL103, pxL104, pxL105, pxL106, pxL107, pxL108, pxL109, pxL110, pxL111, pxL112, pxL113, pxL114, pxL115, pxL116, pxL117, pxL118, pxL119, pxL120, pxL121, pxL122, pxL123, pxL124, pxL125, pxL126, pxL200, pxL240, pxL287, pxL388, pxL400, pxL429, pxL431, pxL440, pxL1240, pxL1600, pxL1681, pxL12028, pxL13849, pxL14880, pxL25173, pxL26908, pxL49600, pxL65535, pxL65536, ↓reduceIte, reduceCtorEq, pxJ_add, pxJ_sub, pxJ_mul, pxJ_neg, pxD_lt_t, pxD_lt_f, pxD_le_t, pxD_le_f, pxD_eq_t, pxD_eq_f, pxJ_lt, pxJ_le, pxJ_eq, pxJ_div, px_b2, px_bs, px_rb0, px_rb1, pxW_some, Option.some.injEq, pxM_eq, pxM_ne, pyN_gI, pyN_pI, pyN_rc, pyN_g1, pyN_a588, pyN_s588, pyN_g3, pyN_a589, pyN_s589, pyN_g4, pyN_a590, pyN_s590, pyN_g5, pyN_a591, pyN_s591, pyN_g6, pyN_a592, pyN_s592, pyN_g7, pyN_a593, pyN_s593, pyN_g8, pyN_a594, pyN_s594, pyN_g9, pyN_a595, pyN_s595, pyN_g10, pyN_a596, pyN_s596, pyN_g11, pyN_a597, pyN_s597, pyN_g19, pyN_a598, pyN_s598, pyN_g21, pyN_a599, pyN_s599, pyN_g31, pyN_a600, pyN_s600, pyN_g32, pyN_a601, pyN_s601, pyN_g38, pyN_a602, pyN_s602, pyN_g39, pyN_a603, pyN_s603, pyN_g46, pyN_a604, pyN_s604, pyN_g47, pyN_a605, pyN_s605, pyN_g48, pyN_a606, pyN_s606, pyN_g49, pyN_a607, pyN_s607, pyN_g55, pyN_a608, pyN_s608, pyN_g56, pyN_a609, pyN_s609, pyN_g57, pyN_a610, pyN_s610, pyN_g58, pyN_a611, pyN_s611, pyN_g59, pyN_a612, pyN_s612, pyN_g60, pyN_a613, pyN_s613, pyN_g74, pyN_a614, pyN_s614, pyN_g75, pyN_a615, pyN_s615, pyN_g76, pyN_a616, pyN_s616, pyN_g78, pyN_a617, pyN_s617, pyN_g79, pyN_a618, pyN_s618, G.1, m1]
  exact pxW_b2 (n_writeFile (k := pxP s (p + 1) - 48) H X Y e42 e43 (by omega) (by omega) (by omega) (by omega) (by omega)) fun v h1 q => pxW_some.mpr (pyDo_fin q e44 e)
set_option maxHeartbeats 8000000 in
theorem n_act_107 {h : jw_H} {s : List Int} {p f l : Int} {T : pxTx} {S : pxSto} {rep : Bool} (H : pyS h) (G : pyG h s) (X : pyX h T) (Y : pyY h S) (I : pxInv T) (nb : T.2.2.2 ≤ 2000000000) (e42 : pxM h 587 42 = f) (e43 : pxM h 587 43 = l) (e44 : pxM h 587 44 = pyB rep) (rg : pxRgOk (pxP s p) f l T.1.length) (p0 : 0 ≤ p) (ok : (pxAct s p).1 = true) (c : pxP s p = 107) :
    pxW (f_X12_otherAct h 587 (pxJ p)) fun v h' => pyDR h (pxDo s p f l T S rep) v h' := by
  have l60 := G.2.1.1
  have l40 := X.1.2.1
  have IS := Y.1
  have pl := (pxP_lt (s := s) (p := p) (by omega)).2
  have m := G.2.2 p p0 pl
  rw [← pxP_E p0 pl, c] at m
  rw [c] at rg
  unfold pxRgOk at rg
  have dg : 97 ≤ pxP s (p + 1) ∧ pxP s (p + 1) ≤ 101 := by
    unfold pxAct at ok
    rw [c] at ok
    by_cases d : 97 ≤ pxP s (p + 1) ∧ pxP s (p + 1) ≤ 101
    · exact d
    · have ok' : (if 97 ≤ pxP s (p + 1) ∧ pxP s (p + 1) ≤ 101 then (true, p + 2) else (false, p + 1)).1 = true := ok
      rw [if_neg d] at ok'; cases ok'
  have pl1 := (pxP_lt (s := s) (p := p + 1) (by omega)).2
  have m1 := G.2.2 (p + 1) (by omega) pl1
  rw [← pxP_E (by omega) pl1] at m1
  have eid : pxM h 593 (l - 1).toNat = pxId T.1 l := (X.1.2.2.2 l (by omega) (by omega)).2
  have b1 := pxM_lo h 593 (l - 1).toNat
  have b2 := pxM_hi h 593 (l - 1).toNat
  rw [eid] at b1 b2
  have e : pxDo s p f l T S rep = (pxSpMark (pxP s (p + 1) - 97) l T S, rep) := by unfold pxDo pxDo1 pxSpTell; rw [c]; rfl
  unfold f_X12_otherAct
  rw [pyN_g21 H, px_bs, pyN_a599 H p0 (by omega), px_bs, m]
  try simp (maxSteps := 4000000) (disch := first | assumption | omega | (simp only [pyS_I]; assumption)) only [pxL0, pxL1, pxL2, pxL3, pxL4, pxL5, pxL6, pxL7, pxL8, pxL9, pxL10, pxL11, pxL12, pxL13, pxL14, pxL15, pxL16, pxL17, pxL18, pxL19, pxL20, pxL21, pxL22, pxL23, pxL24, pxL25, pxL26, pxL27, pxL28, pxL29, pxL30, pxL31, pxL32, pxL33, pxL34, pxL35, pxL36, pxL37, pxL38, pxL39, pxL40, pxL41, pxL42, pxL43, pxL44, pxL45, pxL46, pxL47, pxL48, pxL49, pxL51, pxL57, pxL58, pxL59, pxL60, pxL61, pxL62, pxL63, pxL64, pxL65, pxL66, pxL67, pxL68, pxL69, pxL70, pxL71, pxL72, pxL73, pxL74, pxL75, pxL76, pxL77, pxL78, pxL79, pxL80, pxL81, pxL82, pxL83, pxL84, pxL85, pxL86, pxL87, pxL88, pxL89, pxL90, pxL91, pxL92, pxL93, pxL94, pxL95, pxL96, pxL97, pxL98, pxL99, pxL100, pxL101, pxL102, pxL103, pxL104, pxL105, pxL106, pxL107, pxL108, pxL109, pxL110, pxL111, pxL112, pxL113, pxL114, pxL115, pxL116, pxL117, pxL118, pxL119, pxL120, pxL121, pxL122, pxL123, pxL124, pxL125, pxL126, pxL200, pxL240, pxL287, pxL388, pxL400, pxL429, pxL431, pxL440, pxL1240, pxL1600, pxL1681, pxL12028, pxL13849, pxL14880, pxL25173, pxL26908, pxL49600, pxL65535, pxL65536, ↓reduceIte, reduceCtorEq, pxJ_add, pxJ_sub, pxJ_mul, pxJ_neg, pxD_lt_t, pxD_lt_f, pxD_le_t, pxD_le_f, pxD_eq_t, pxD_eq_f, pxJ_lt, pxJ_le, pxJ_eq, pxJ_div, px_b2, px_bs, px_rb0, px_rb1, pxW_some, Option.some.injEq, pxM_eq, pxM_ne, pyN_gI, pyN_pI, pyN_rc, pyN_g1, pyN_a588, pyN_s588, pyN_g3, pyN_a589, pyN_s589, pyN_g4, pyN_a590, pyN_s590, pyN_g5, pyN_a591, pyN_s591, pyN_g6, pyN_a592, pyN_s592, pyN_g7, pyN_a593, pyN_s593, pyN_g8, pyN_a594, pyN_s594, pyN_g9, pyN_a595, pyN_s595, pyN_g10, pyN_a596, pyN_s596, pyN_g11, pyN_a597, pyN_s597, pyN_g19, pyN_a598, pyN_s598, pyN_g21, pyN_a599, pyN_s599, pyN_g31, pyN_a600, pyN_s600, pyN_g32, pyN_a601, pyN_s601, pyN_g38, pyN_a602, pyN_s602, pyN_g39, pyN_a603, pyN_s603, pyN_g46, pyN_a604, pyN_s604, pyN_g47, pyN_a605, pyN_s605, pyN_g48, pyN_a606, pyN_s606, pyN_g49, pyN_a607, pyN_s607, pyN_g55, pyN_a608, pyN_s608, pyN_g56, pyN_a609, pyN_s609, pyN_g57, pyN_a610, pyN_s610, pyN_g58, pyN_a611, pyN_s611, pyN_g59, pyN_a612, pyN_s612, pyN_g60, pyN_a613, pyN_s613, pyN_g74, pyN_a614, pyN_s614, pyN_g75, pyN_a615, pyN_s615, pyN_g76, pyN_a616, pyN_s616, pyN_g78, pyN_a617, pyN_s617, pyN_g79, pyN_a618, pyN_s618, G.1, m1, e43, eid]
  refine pyDo_fin ?_ e44 e
  have V : pyV (fun k f => k = 596 ∧ (f : Int) = pxP s (p + 1) - 97) h (jw_setI h 596 (pxP s (p + 1) - 97).toNat (pxJ (pxId T.1 l))) := pyV.rfl.set ⟨rfl, by omega⟩
  refine ⟨V.mono (fun k f z => by unfold pyQA; omega), (by first | exact True.intro | rfl), fun _ => ⟨⟨X.1.keep V (fun f _ => by omega) (fun f _ => by omega) (by omega), fun k k0 k5 => ?_, by rw [V.m (by omega)]; exact X.2.2.1, by rw [V.m (by omega)]; exact X.2.2.2⟩, Y.keep V (fun k f z => by omega)⟩⟩
  show _ = if k = pxP s (p + 1) - 97 then pxId T.1 l else T.2.1 k
  by_cases d : k = pxP s (p + 1) - 97
  · rw [if_pos d, d, pxM_eq b1 b2]
  · rw [if_neg d, V.m (by omega)]
    exact X.2.1 k k0 k5
set_option maxHeartbeats 8000000 in
theorem n_act {h : jw_H} {s : List Int} {p f l : Int} {T : pxTx} {S : pxSto} {rep : Bool} (H : pyS h) (G : pyG h s) (X : pyX h T) (Y : pyY h S) (I : pxInv T) (nb : T.2.2.2 ≤ 2000000000) (e42 : pxM h 587 42 = f) (e43 : pxM h 587 43 = l) (e44 : pxM h 587 44 = pyB rep) (rg : pxRgOk (pxP s p) f l T.1.length) (p0 : 0 ≤ p) (ok : (pxAct s p).1 = true) (ns : ¬ (pxP s p = 58 ∨ pxP s p = 98 ∨ pxP s p = 84 ∨ pxP s p = 113 ∨ pxP s p = 78)) (nz : pxP s p = 115 → pxP s (pxRep s (p + 1)).2 ≠ 48) :
    pxW (f_X12_act h 587 (pxJ p)) fun v h' => pyDR h (pxDo s p f l T S rep) v h' := by
  have l60 := G.2.1.1
  rcases pyAct_cs ok ns with c | c | c | c | c | c | c | c | c | c | c | c | c | c | c | c | c | c | c | c | c | c | c | c | c
  · exact n_act_97 H G X Y I nb e42 e43 e44 rg p0 ok c
  · exact n_act_105 H G X Y I nb e42 e43 e44 rg p0 ok c
  · exact n_act_99 H G X Y I nb e42 e43 e44 rg p0 ok c
  · exact n_act_100 H G X Y I nb e42 e43 e44 rg p0 ok c
  · exact n_act_106 H G X Y I nb e42 e43 e44 rg p0 ok c
  · exact n_act_118 H G X Y I nb e42 e43 e44 rg p0 ok c
  · exact n_act_108 H G X Y I nb e42 e43 e44 rg p0 ok c
  · exact n_act_112 H G X Y I nb e42 e43 e44 rg p0 ok c
  · exact n_act_110 H G X Y I nb e42 e43 e44 rg p0 ok c
  · exact n_act_61 H G X Y I nb e42 e43 e44 rg p0 ok c
  · exact n_act_104 H G X Y I nb e42 e43 e44 rg p0 ok c
  · exact n_act_72 H G X Y I nb e42 e43 e44 rg p0 ok c
  · exact n_act_117 H G X Y I nb e42 e43 e44 rg p0 ok c
  · exact n_act_101 H G X Y I nb e42 e43 e44 rg p0 ok c
  · have pl := (pxP_lt (s := s) (p := p) (by omega)).2
    have m := G.2.2 p p0 pl
    rw [← pxP_E p0 pl, c] at m
    have B := n_act_62 (rep := rep) H G X Y I nb e42 e43 e44 rg p0 ok c
    clear rg
    unfold f_X12_act
    rw [pyN_g21 H, px_bs, pyN_a599 H p0 (by omega), px_bs, m]
    try simp (maxSteps := 4000000) (disch := first | assumption | omega | (simp only [pyS_I]; assumption)) only [pxL0, pxL1, pxL2, pxL3, pxL4, pxL5, pxL6, pxL7, pxL8, pxL9, pxL10, pxL11, pxL12, pxL13, pxL14, pxL15, pxL16, pxL17, pxL18, pxL19, pxL20, pxL21, pxL22, pxL23, pxL24, pxL25, pxL26, pxL27, pxL28, pxL29, pxL30, pxL31, pxL32, pxL33, pxL34, pxL35, pxL36, pxL37, pxL38, pxL39, pxL40, pxL41, pxL42, pxL43, pxL44, pxL45, pxL46, pxL47, pxL48, pxL49, pxL51, pxL57, pxL58, pxL59, pxL60, pxL61, pxL62, pxL63, pxL64, pxL65, pxL66, pxL67, pxL68, pxL69, pxL70, pxL71, pxL72, pxL73, pxL74, pxL75, pxL76, pxL77, pxL78, pxL79, pxL80, pxL81, pxL82, pxL83, pxL84, pxL85, pxL86, pxL87, pxL88, pxL89, pxL90, pxL91, pxL92, pxL93, pxL94, pxL95, pxL96, pxL97, pxL98, pxL99, pxL100, pxL101, pxL102, pxL103, pxL104, pxL105, pxL106, pxL107, pxL108, pxL109, pxL110, pxL111, pxL112, pxL113, pxL114, pxL115, pxL116, pxL117, pxL118, pxL119, pxL120, pxL121, pxL122, pxL123, pxL124, pxL125, pxL126, pxL200, pxL240, pxL287, pxL388, pxL400, pxL429, pxL431, pxL440, pxL1240, pxL1600, pxL1681, pxL12028, pxL13849, pxL14880, pxL25173, pxL26908, pxL49600, pxL65535, pxL65536, ↓reduceIte, reduceCtorEq, pxJ_add, pxJ_sub, pxJ_mul, pxJ_neg, pxD_lt_t, pxD_lt_f, pxD_le_t, pxD_le_f, pxD_eq_t, pxD_eq_f, pxJ_lt, pxJ_le, pxJ_eq, pxJ_div, px_b2, px_bs, px_rb0, px_rb1, pxW_some, Option.some.injEq, pxM_eq, pxM_ne, pyN_gI, pyN_pI, pyN_rc, pyN_g1, pyN_a588, pyN_s588, pyN_g3, pyN_a589, pyN_s589, pyN_g4, pyN_a590, pyN_s590, pyN_g5, pyN_a591, pyN_s591, pyN_g6, pyN_a592, pyN_s592, pyN_g7, pyN_a593, pyN_s593, pyN_g8, pyN_a594, pyN_s594, pyN_g9, pyN_a595, pyN_s595, pyN_g10, pyN_a596, pyN_s596, pyN_g11, pyN_a597, pyN_s597, pyN_g19, pyN_a598, pyN_s598, pyN_g21, pyN_a599, pyN_s599, pyN_g31, pyN_a600, pyN_s600, pyN_g32, pyN_a601, pyN_s601, pyN_g38, pyN_a602, pyN_s602, pyN_g39, pyN_a603, pyN_s603, pyN_g46, pyN_a604, pyN_s604, pyN_g47, pyN_a605, pyN_s605, pyN_g48, pyN_a606, pyN_s606, pyN_g49, pyN_a607, pyN_s607, pyN_g55, pyN_a608, pyN_s608, pyN_g56, pyN_a609, pyN_s609, pyN_g57, pyN_a610, pyN_s610, pyN_g58, pyN_a611, pyN_s611, pyN_g59, pyN_a612, pyN_s612, pyN_g60, pyN_a613, pyN_s613, pyN_g74, pyN_a614, pyN_s614, pyN_g75, pyN_a615, pyN_s615, pyN_g76, pyN_a616, pyN_s616, pyN_g78, pyN_a617, pyN_s617, pyN_g79, pyN_a618, pyN_s618, G.1]
    exact pxW_b2 (B) fun v h1 q => pxW_some.mpr q
  · have pl := (pxP_lt (s := s) (p := p) (by omega)).2
    have m := G.2.2 p p0 pl
    rw [← pxP_E p0 pl, c] at m
    have B := n_act_60 (rep := rep) H G X Y I nb e42 e43 e44 rg p0 ok c
    clear rg
    unfold f_X12_act
    rw [pyN_g21 H, px_bs, pyN_a599 H p0 (by omega), px_bs, m]
    try simp (maxSteps := 4000000) (disch := first | assumption | omega | (simp only [pyS_I]; assumption)) only [pxL0, pxL1, pxL2, pxL3, pxL4, pxL5, pxL6, pxL7, pxL8, pxL9, pxL10, pxL11, pxL12, pxL13, pxL14, pxL15, pxL16, pxL17, pxL18, pxL19, pxL20, pxL21, pxL22, pxL23, pxL24, pxL25, pxL26, pxL27, pxL28, pxL29, pxL30, pxL31, pxL32, pxL33, pxL34, pxL35, pxL36, pxL37, pxL38, pxL39, pxL40, pxL41, pxL42, pxL43, pxL44, pxL45, pxL46, pxL47, pxL48, pxL49, pxL51, pxL57, pxL58, pxL59, pxL60, pxL61, pxL62, pxL63, pxL64, pxL65, pxL66, pxL67, pxL68, pxL69, pxL70, pxL71, pxL72, pxL73, pxL74, pxL75, pxL76, pxL77, pxL78, pxL79, pxL80, pxL81, pxL82, pxL83, pxL84, pxL85, pxL86, pxL87, pxL88, pxL89, pxL90, pxL91, pxL92, pxL93, pxL94, pxL95, pxL96, pxL97, pxL98, pxL99, pxL100, pxL101, pxL102, pxL103, pxL104, pxL105, pxL106, pxL107, pxL108, pxL109, pxL110, pxL111, pxL112, pxL113, pxL114, pxL115, pxL116, pxL117, pxL118, pxL119, pxL120, pxL121, pxL122, pxL123, pxL124, pxL125, pxL126, pxL200, pxL240, pxL287, pxL388, pxL400, pxL429, pxL431, pxL440, pxL1240, pxL1600, pxL1681, pxL12028, pxL13849, pxL14880, pxL25173, pxL26908, pxL49600, pxL65535, pxL65536, ↓reduceIte, reduceCtorEq, pxJ_add, pxJ_sub, pxJ_mul, pxJ_neg, pxD_lt_t, pxD_lt_f, pxD_le_t, pxD_le_f, pxD_eq_t, pxD_eq_f, pxJ_lt, pxJ_le, pxJ_eq, pxJ_div, px_b2, px_bs, px_rb0, px_rb1, pxW_some, Option.some.injEq, pxM_eq, pxM_ne, pyN_gI, pyN_pI, pyN_rc, pyN_g1, pyN_a588, pyN_s588, pyN_g3, pyN_a589, pyN_s589, pyN_g4, pyN_a590, pyN_s590, pyN_g5, pyN_a591, pyN_s591, pyN_g6, pyN_a592, pyN_s592, pyN_g7, pyN_a593, pyN_s593, pyN_g8, pyN_a594, pyN_s594, pyN_g9, pyN_a595, pyN_s595, pyN_g10, pyN_a596, pyN_s596, pyN_g11, pyN_a597, pyN_s597, pyN_g19, pyN_a598, pyN_s598, pyN_g21, pyN_a599, pyN_s599, pyN_g31, pyN_a600, pyN_s600, pyN_g32, pyN_a601, pyN_s601, pyN_g38, pyN_a602, pyN_s602, pyN_g39, pyN_a603, pyN_s603, pyN_g46, pyN_a604, pyN_s604, pyN_g47, pyN_a605, pyN_s605, pyN_g48, pyN_a606, pyN_s606, pyN_g49, pyN_a607, pyN_s607, pyN_g55, pyN_a608, pyN_s608, pyN_g56, pyN_a609, pyN_s609, pyN_g57, pyN_a610, pyN_s610, pyN_g58, pyN_a611, pyN_s611, pyN_g59, pyN_a612, pyN_s612, pyN_g60, pyN_a613, pyN_s613, pyN_g74, pyN_a614, pyN_s614, pyN_g75, pyN_a615, pyN_s615, pyN_g76, pyN_a616, pyN_s616, pyN_g78, pyN_a617, pyN_s617, pyN_g79, pyN_a618, pyN_s618, G.1]
    exact pxW_b2 (B) fun v h1 q => pxW_some.mpr q
  · have pl := (pxP_lt (s := s) (p := p) (by omega)).2
    have m := G.2.2 p p0 pl
    rw [← pxP_E p0 pl, c] at m
    have B := n_act_111 (rep := rep) H G X Y I nb e42 e43 e44 rg p0 ok c
    clear rg
    unfold f_X12_act
    rw [pyN_g21 H, px_bs, pyN_a599 H p0 (by omega), px_bs, m]
    try simp (maxSteps := 4000000) (disch := first | assumption | omega | (simp only [pyS_I]; assumption)) only [pxL0, pxL1, pxL2, pxL3, pxL4, pxL5, pxL6, pxL7, pxL8, pxL9, pxL10, pxL11, pxL12, pxL13, pxL14, pxL15, pxL16, pxL17, pxL18, pxL19, pxL20, pxL21, pxL22, pxL23, pxL24, pxL25, pxL26, pxL27, pxL28, pxL29, pxL30, pxL31, pxL32, pxL33, pxL34, pxL35, pxL36, pxL37, pxL38, pxL39, pxL40, pxL41, pxL42, pxL43, pxL44, pxL45, pxL46, pxL47, pxL48, pxL49, pxL51, pxL57, pxL58, pxL59, pxL60, pxL61, pxL62, pxL63, pxL64, pxL65, pxL66, pxL67, pxL68, pxL69, pxL70, pxL71, pxL72, pxL73, pxL74, pxL75, pxL76, pxL77, pxL78, pxL79, pxL80, pxL81, pxL82, pxL83, pxL84, pxL85, pxL86, pxL87, pxL88, pxL89, pxL90, pxL91, pxL92, pxL93, pxL94, pxL95, pxL96, pxL97, pxL98, pxL99, pxL100, pxL101, pxL102, pxL103, pxL104, pxL105, pxL106, pxL107, pxL108, pxL109, pxL110, pxL111, pxL112, pxL113, pxL114, pxL115, pxL116, pxL117, pxL118, pxL119, pxL120, pxL121, pxL122, pxL123, pxL124, pxL125, pxL126, pxL200, pxL240, pxL287, pxL388, pxL400, pxL429, pxL431, pxL440, pxL1240, pxL1600, pxL1681, pxL12028, pxL13849, pxL14880, pxL25173, pxL26908, pxL49600, pxL65535, pxL65536, ↓reduceIte, reduceCtorEq, pxJ_add, pxJ_sub, pxJ_mul, pxJ_neg, pxD_lt_t, pxD_lt_f, pxD_le_t, pxD_le_f, pxD_eq_t, pxD_eq_f, pxJ_lt, pxJ_le, pxJ_eq, pxJ_div, px_b2, px_bs, px_rb0, px_rb1, pxW_some, Option.some.injEq, pxM_eq, pxM_ne, pyN_gI, pyN_pI, pyN_rc, pyN_g1, pyN_a588, pyN_s588, pyN_g3, pyN_a589, pyN_s589, pyN_g4, pyN_a590, pyN_s590, pyN_g5, pyN_a591, pyN_s591, pyN_g6, pyN_a592, pyN_s592, pyN_g7, pyN_a593, pyN_s593, pyN_g8, pyN_a594, pyN_s594, pyN_g9, pyN_a595, pyN_s595, pyN_g10, pyN_a596, pyN_s596, pyN_g11, pyN_a597, pyN_s597, pyN_g19, pyN_a598, pyN_s598, pyN_g21, pyN_a599, pyN_s599, pyN_g31, pyN_a600, pyN_s600, pyN_g32, pyN_a601, pyN_s601, pyN_g38, pyN_a602, pyN_s602, pyN_g39, pyN_a603, pyN_s603, pyN_g46, pyN_a604, pyN_s604, pyN_g47, pyN_a605, pyN_s605, pyN_g48, pyN_a606, pyN_s606, pyN_g49, pyN_a607, pyN_s607, pyN_g55, pyN_a608, pyN_s608, pyN_g56, pyN_a609, pyN_s609, pyN_g57, pyN_a610, pyN_s610, pyN_g58, pyN_a611, pyN_s611, pyN_g59, pyN_a612, pyN_s612, pyN_g60, pyN_a613, pyN_s613, pyN_g74, pyN_a614, pyN_s614, pyN_g75, pyN_a615, pyN_s615, pyN_g76, pyN_a616, pyN_s616, pyN_g78, pyN_a617, pyN_s617, pyN_g79, pyN_a618, pyN_s618, G.1]
    exact pxW_b2 (B) fun v h1 q => pxW_some.mpr q
  · have pl := (pxP_lt (s := s) (p := p) (by omega)).2
    have m := G.2.2 p p0 pl
    rw [← pxP_E p0 pl, c] at m
    have B := n_act_79 (rep := rep) H G X Y I nb e42 e43 e44 rg p0 ok c
    clear rg
    unfold f_X12_act
    rw [pyN_g21 H, px_bs, pyN_a599 H p0 (by omega), px_bs, m]
    try simp (maxSteps := 4000000) (disch := first | assumption | omega | (simp only [pyS_I]; assumption)) only [pxL0, pxL1, pxL2, pxL3, pxL4, pxL5, pxL6, pxL7, pxL8, pxL9, pxL10, pxL11, pxL12, pxL13, pxL14, pxL15, pxL16, pxL17, pxL18, pxL19, pxL20, pxL21, pxL22, pxL23, pxL24, pxL25, pxL26, pxL27, pxL28, pxL29, pxL30, pxL31, pxL32, pxL33, pxL34, pxL35, pxL36, pxL37, pxL38, pxL39, pxL40, pxL41, pxL42, pxL43, pxL44, pxL45, pxL46, pxL47, pxL48, pxL49, pxL51, pxL57, pxL58, pxL59, pxL60, pxL61, pxL62, pxL63, pxL64, pxL65, pxL66, pxL67, pxL68, pxL69, pxL70, pxL71, pxL72, pxL73, pxL74, pxL75, pxL76, pxL77, pxL78, pxL79, pxL80, pxL81, pxL82, pxL83, pxL84, pxL85, pxL86, pxL87, pxL88, pxL89, pxL90, pxL91, pxL92, pxL93, pxL94, pxL95, pxL96, pxL97, pxL98, pxL99, pxL100, pxL101, pxL102, pxL103, pxL104, pxL105, pxL106, pxL107, pxL108, pxL109, pxL110, pxL111, pxL112, pxL113, pxL114, pxL115, pxL116, pxL117, pxL118, pxL119, pxL120, pxL121, pxL122, pxL123, pxL124, pxL125, pxL126, pxL200, pxL240, pxL287, pxL388, pxL400, pxL429, pxL431, pxL440, pxL1240, pxL1600, pxL1681, pxL12028, pxL13849, pxL14880, pxL25173, pxL26908, pxL49600, pxL65535, pxL65536, ↓reduceIte, reduceCtorEq, pxJ_add, pxJ_sub, pxJ_mul, pxJ_neg, pxD_lt_t, pxD_lt_f, pxD_le_t, pxD_le_f, pxD_eq_t, pxD_eq_f, pxJ_lt, pxJ_le, pxJ_eq, pxJ_div, px_b2, px_bs, px_rb0, px_rb1, pxW_some, Option.some.injEq, pxM_eq, pxM_ne, pyN_gI, pyN_pI, pyN_rc, pyN_g1, pyN_a588, pyN_s588, pyN_g3, pyN_a589, pyN_s589, pyN_g4, pyN_a590, pyN_s590, pyN_g5, pyN_a591, pyN_s591, pyN_g6, pyN_a592, pyN_s592, pyN_g7, pyN_a593, pyN_s593, pyN_g8, pyN_a594, pyN_s594, pyN_g9, pyN_a595, pyN_s595, pyN_g10, pyN_a596, pyN_s596, pyN_g11, pyN_a597, pyN_s597, pyN_g19, pyN_a598, pyN_s598, pyN_g21, pyN_a599, pyN_s599, pyN_g31, pyN_a600, pyN_s600, pyN_g32, pyN_a601, pyN_s601, pyN_g38, pyN_a602, pyN_s602, pyN_g39, pyN_a603, pyN_s603, pyN_g46, pyN_a604, pyN_s604, pyN_g47, pyN_a605, pyN_s605, pyN_g48, pyN_a606, pyN_s606, pyN_g49, pyN_a607, pyN_s607, pyN_g55, pyN_a608, pyN_s608, pyN_g56, pyN_a609, pyN_s609, pyN_g57, pyN_a610, pyN_s610, pyN_g58, pyN_a611, pyN_s611, pyN_g59, pyN_a612, pyN_s612, pyN_g60, pyN_a613, pyN_s613, pyN_g74, pyN_a614, pyN_s614, pyN_g75, pyN_a615, pyN_s615, pyN_g76, pyN_a616, pyN_s616, pyN_g78, pyN_a617, pyN_s617, pyN_g79, pyN_a618, pyN_s618, G.1]
    exact pxW_b2 (B) fun v h1 q => pxW_some.mpr q
  · have pl := (pxP_lt (s := s) (p := p) (by omega)).2
    have m := G.2.2 p p0 pl
    rw [← pxP_E p0 pl, c] at m
    have B := n_act_109 (rep := rep) H G X Y I nb e42 e43 e44 rg p0 ok c
    clear rg
    unfold f_X12_act
    rw [pyN_g21 H, px_bs, pyN_a599 H p0 (by omega), px_bs, m]
    try simp (maxSteps := 4000000) (disch := first | assumption | omega | (simp only [pyS_I]; assumption)) only [pxL0, pxL1, pxL2, pxL3, pxL4, pxL5, pxL6, pxL7, pxL8, pxL9, pxL10, pxL11, pxL12, pxL13, pxL14, pxL15, pxL16, pxL17, pxL18, pxL19, pxL20, pxL21, pxL22, pxL23, pxL24, pxL25, pxL26, pxL27, pxL28, pxL29, pxL30, pxL31, pxL32, pxL33, pxL34, pxL35, pxL36, pxL37, pxL38, pxL39, pxL40, pxL41, pxL42, pxL43, pxL44, pxL45, pxL46, pxL47, pxL48, pxL49, pxL51, pxL57, pxL58, pxL59, pxL60, pxL61, pxL62, pxL63, pxL64, pxL65, pxL66, pxL67, pxL68, pxL69, pxL70, pxL71, pxL72, pxL73, pxL74, pxL75, pxL76, pxL77, pxL78, pxL79, pxL80, pxL81, pxL82, pxL83, pxL84, pxL85, pxL86, pxL87, pxL88, pxL89, pxL90, pxL91, pxL92, pxL93, pxL94, pxL95, pxL96, pxL97, pxL98, pxL99, pxL100, pxL101, pxL102, pxL103, pxL104, pxL105, pxL106, pxL107, pxL108, pxL109, pxL110, pxL111, pxL112, pxL113, pxL114, pxL115, pxL116, pxL117, pxL118, pxL119, pxL120, pxL121, pxL122, pxL123, pxL124, pxL125, pxL126, pxL200, pxL240, pxL287, pxL388, pxL400, pxL429, pxL431, pxL440, pxL1240, pxL1600, pxL1681, pxL12028, pxL13849, pxL14880, pxL25173, pxL26908, pxL49600, pxL65535, pxL65536, ↓reduceIte, reduceCtorEq, pxJ_add, pxJ_sub, pxJ_mul, pxJ_neg, pxD_lt_t, pxD_lt_f, pxD_le_t, pxD_le_f, pxD_eq_t, pxD_eq_f, pxJ_lt, pxJ_le, pxJ_eq, pxJ_div, px_b2, px_bs, px_rb0, px_rb1, pxW_some, Option.some.injEq, pxM_eq, pxM_ne, pyN_gI, pyN_pI, pyN_rc, pyN_g1, pyN_a588, pyN_s588, pyN_g3, pyN_a589, pyN_s589, pyN_g4, pyN_a590, pyN_s590, pyN_g5, pyN_a591, pyN_s591, pyN_g6, pyN_a592, pyN_s592, pyN_g7, pyN_a593, pyN_s593, pyN_g8, pyN_a594, pyN_s594, pyN_g9, pyN_a595, pyN_s595, pyN_g10, pyN_a596, pyN_s596, pyN_g11, pyN_a597, pyN_s597, pyN_g19, pyN_a598, pyN_s598, pyN_g21, pyN_a599, pyN_s599, pyN_g31, pyN_a600, pyN_s600, pyN_g32, pyN_a601, pyN_s601, pyN_g38, pyN_a602, pyN_s602, pyN_g39, pyN_a603, pyN_s603, pyN_g46, pyN_a604, pyN_s604, pyN_g47, pyN_a605, pyN_s605, pyN_g48, pyN_a606, pyN_s606, pyN_g49, pyN_a607, pyN_s607, pyN_g55, pyN_a608, pyN_s608, pyN_g56, pyN_a609, pyN_s609, pyN_g57, pyN_a610, pyN_s610, pyN_g58, pyN_a611, pyN_s611, pyN_g59, pyN_a612, pyN_s612, pyN_g60, pyN_a613, pyN_s613, pyN_g74, pyN_a614, pyN_s614, pyN_g75, pyN_a615, pyN_s615, pyN_g76, pyN_a616, pyN_s616, pyN_g78, pyN_a617, pyN_s617, pyN_g79, pyN_a618, pyN_s618, G.1]
    exact pxW_b2 (B) fun v h1 q => pxW_some.mpr q
  · have pl := (pxP_lt (s := s) (p := p) (by omega)).2
    have m := G.2.2 p p0 pl
    rw [← pxP_E p0 pl, c] at m
    have B := n_act_116 (rep := rep) H G X Y I nb e42 e43 e44 rg p0 ok c
    clear rg
    unfold f_X12_act
    rw [pyN_g21 H, px_bs, pyN_a599 H p0 (by omega), px_bs, m]
    try simp (maxSteps := 4000000) (disch := first | assumption | omega | (simp only [pyS_I]; assumption)) only [pxL0, pxL1, pxL2, pxL3, pxL4, pxL5, pxL6, pxL7, pxL8, pxL9, pxL10, pxL11, pxL12, pxL13, pxL14, pxL15, pxL16, pxL17, pxL18, pxL19, pxL20, pxL21, pxL22, pxL23, pxL24, pxL25, pxL26, pxL27, pxL28, pxL29, pxL30, pxL31, pxL32, pxL33, pxL34, pxL35, pxL36, pxL37, pxL38, pxL39, pxL40, pxL41, pxL42, pxL43, pxL44, pxL45, pxL46, pxL47, pxL48, pxL49, pxL51, pxL57, pxL58, pxL59, pxL60, pxL61, pxL62, pxL63, pxL64, pxL65, pxL66, pxL67, pxL68, pxL69, pxL70, pxL71, pxL72, pxL73, pxL74, pxL75, pxL76, pxL77, pxL78, pxL79, pxL80, pxL81, pxL82, pxL83, pxL84, pxL85, pxL86, pxL87, pxL88, pxL89, pxL90, pxL91, pxL92, pxL93, pxL94, pxL95, pxL96, pxL97, pxL98, pxL99, pxL100, pxL101, pxL102, pxL103, pxL104, pxL105, pxL106, pxL107, pxL108, pxL109, pxL110, pxL111, pxL112, pxL113, pxL114, pxL115, pxL116, pxL117, pxL118, pxL119, pxL120, pxL121, pxL122, pxL123, pxL124, pxL125, pxL126, pxL200, pxL240, pxL287, pxL388, pxL400, pxL429, pxL431, pxL440, pxL1240, pxL1600, pxL1681, pxL12028, pxL13849, pxL14880, pxL25173, pxL26908, pxL49600, pxL65535, pxL65536, ↓reduceIte, reduceCtorEq, pxJ_add, pxJ_sub, pxJ_mul, pxJ_neg, pxD_lt_t, pxD_lt_f, pxD_le_t, pxD_le_f, pxD_eq_t, pxD_eq_f, pxJ_lt, pxJ_le, pxJ_eq, pxJ_div, px_b2, px_bs, px_rb0, px_rb1, pxW_some, Option.some.injEq, pxM_eq, pxM_ne, pyN_gI, pyN_pI, pyN_rc, pyN_g1, pyN_a588, pyN_s588, pyN_g3, pyN_a589, pyN_s589, pyN_g4, pyN_a590, pyN_s590, pyN_g5, pyN_a591, pyN_s591, pyN_g6, pyN_a592, pyN_s592, pyN_g7, pyN_a593, pyN_s593, pyN_g8, pyN_a594, pyN_s594, pyN_g9, pyN_a595, pyN_s595, pyN_g10, pyN_a596, pyN_s596, pyN_g11, pyN_a597, pyN_s597, pyN_g19, pyN_a598, pyN_s598, pyN_g21, pyN_a599, pyN_s599, pyN_g31, pyN_a600, pyN_s600, pyN_g32, pyN_a601, pyN_s601, pyN_g38, pyN_a602, pyN_s602, pyN_g39, pyN_a603, pyN_s603, pyN_g46, pyN_a604, pyN_s604, pyN_g47, pyN_a605, pyN_s605, pyN_g48, pyN_a606, pyN_s606, pyN_g49, pyN_a607, pyN_s607, pyN_g55, pyN_a608, pyN_s608, pyN_g56, pyN_a609, pyN_s609, pyN_g57, pyN_a610, pyN_s610, pyN_g58, pyN_a611, pyN_s611, pyN_g59, pyN_a612, pyN_s612, pyN_g60, pyN_a613, pyN_s613, pyN_g74, pyN_a614, pyN_s614, pyN_g75, pyN_a615, pyN_s615, pyN_g76, pyN_a616, pyN_s616, pyN_g78, pyN_a617, pyN_s617, pyN_g79, pyN_a618, pyN_s618, G.1]
    exact pxW_b2 (B) fun v h1 q => pxW_some.mpr q
  · have pl := (pxP_lt (s := s) (p := p) (by omega)).2
    have m := G.2.2 p p0 pl
    rw [← pxP_E p0 pl, c] at m
    have B := n_act_115 (rep := rep) H G X Y I nb e42 e43 e44 rg p0 ok nz c
    clear rg
    unfold f_X12_act
    rw [pyN_g21 H, px_bs, pyN_a599 H p0 (by omega), px_bs, m]
    try simp (maxSteps := 4000000) (disch := first | assumption | omega | (simp only [pyS_I]; assumption)) only [pxL0, pxL1, pxL2, pxL3, pxL4, pxL5, pxL6, pxL7, pxL8, pxL9, pxL10, pxL11, pxL12, pxL13, pxL14, pxL15, pxL16, pxL17, pxL18, pxL19, pxL20, pxL21, pxL22, pxL23, pxL24, pxL25, pxL26, pxL27, pxL28, pxL29, pxL30, pxL31, pxL32, pxL33, pxL34, pxL35, pxL36, pxL37, pxL38, pxL39, pxL40, pxL41, pxL42, pxL43, pxL44, pxL45, pxL46, pxL47, pxL48, pxL49, pxL51, pxL57, pxL58, pxL59, pxL60, pxL61, pxL62, pxL63, pxL64, pxL65, pxL66, pxL67, pxL68, pxL69, pxL70, pxL71, pxL72, pxL73, pxL74, pxL75, pxL76, pxL77, pxL78, pxL79, pxL80, pxL81, pxL82, pxL83, pxL84, pxL85, pxL86, pxL87, pxL88, pxL89, pxL90, pxL91, pxL92, pxL93, pxL94, pxL95, pxL96, pxL97, pxL98, pxL99, pxL100, pxL101, pxL102, pxL103, pxL104, pxL105, pxL106, pxL107, pxL108, pxL109, pxL110, pxL111, pxL112, pxL113, pxL114, pxL115, pxL116, pxL117, pxL118, pxL119, pxL120, pxL121, pxL122, pxL123, pxL124, pxL125, pxL126, pxL200, pxL240, pxL287, pxL388, pxL400, pxL429, pxL431, pxL440, pxL1240, pxL1600, pxL1681, pxL12028, pxL13849, pxL14880, pxL25173, pxL26908, pxL49600, pxL65535, pxL65536, ↓reduceIte, reduceCtorEq, pxJ_add, pxJ_sub, pxJ_mul, pxJ_neg, pxD_lt_t, pxD_lt_f, pxD_le_t, pxD_le_f, pxD_eq_t, pxD_eq_f, pxJ_lt, pxJ_le, pxJ_eq, pxJ_div, px_b2, px_bs, px_rb0, px_rb1, pxW_some, Option.some.injEq, pxM_eq, pxM_ne, pyN_gI, pyN_pI, pyN_rc, pyN_g1, pyN_a588, pyN_s588, pyN_g3, pyN_a589, pyN_s589, pyN_g4, pyN_a590, pyN_s590, pyN_g5, pyN_a591, pyN_s591, pyN_g6, pyN_a592, pyN_s592, pyN_g7, pyN_a593, pyN_s593, pyN_g8, pyN_a594, pyN_s594, pyN_g9, pyN_a595, pyN_s595, pyN_g10, pyN_a596, pyN_s596, pyN_g11, pyN_a597, pyN_s597, pyN_g19, pyN_a598, pyN_s598, pyN_g21, pyN_a599, pyN_s599, pyN_g31, pyN_a600, pyN_s600, pyN_g32, pyN_a601, pyN_s601, pyN_g38, pyN_a602, pyN_s602, pyN_g39, pyN_a603, pyN_s603, pyN_g46, pyN_a604, pyN_s604, pyN_g47, pyN_a605, pyN_s605, pyN_g48, pyN_a606, pyN_s606, pyN_g49, pyN_a607, pyN_s607, pyN_g55, pyN_a608, pyN_s608, pyN_g56, pyN_a609, pyN_s609, pyN_g57, pyN_a610, pyN_s610, pyN_g58, pyN_a611, pyN_s611, pyN_g59, pyN_a612, pyN_s612, pyN_g60, pyN_a613, pyN_s613, pyN_g74, pyN_a614, pyN_s614, pyN_g75, pyN_a615, pyN_s615, pyN_g76, pyN_a616, pyN_s616, pyN_g78, pyN_a617, pyN_s617, pyN_g79, pyN_a618, pyN_s618, G.1]
    exact pxW_b2 (B) fun v h1 q => pxW_some.mpr q
  · have pl := (pxP_lt (s := s) (p := p) (by omega)).2
    have m := G.2.2 p p0 pl
    rw [← pxP_E p0 pl, c] at m
    have B := n_act_122 (rep := rep) H G X Y I nb e42 e43 e44 rg p0 ok c
    clear rg
    unfold f_X12_act
    rw [pyN_g21 H, px_bs, pyN_a599 H p0 (by omega), px_bs, m]
    try simp (maxSteps := 4000000) (disch := first | assumption | omega | (simp only [pyS_I]; assumption)) only [pxL0, pxL1, pxL2, pxL3, pxL4, pxL5, pxL6, pxL7, pxL8, pxL9, pxL10, pxL11, pxL12, pxL13, pxL14, pxL15, pxL16, pxL17, pxL18, pxL19, pxL20, pxL21, pxL22, pxL23, pxL24, pxL25, pxL26, pxL27, pxL28, pxL29, pxL30, pxL31, pxL32, pxL33, pxL34, pxL35, pxL36, pxL37, pxL38, pxL39, pxL40, pxL41, pxL42, pxL43, pxL44, pxL45, pxL46, pxL47, pxL48, pxL49, pxL51, pxL57, pxL58, pxL59, pxL60, pxL61, pxL62, pxL63, pxL64, pxL65, pxL66, pxL67, pxL68, pxL69, pxL70, pxL71, pxL72, pxL73, pxL74, pxL75, pxL76, pxL77, pxL78, pxL79, pxL80, pxL81, pxL82, pxL83, pxL84, pxL85, pxL86, pxL87, pxL88, pxL89, pxL90, pxL91, pxL92, pxL93, pxL94, pxL95, pxL96, pxL97, pxL98, pxL99, pxL100, pxL101, pxL102, pxL103, pxL104, pxL105, pxL106, pxL107, pxL108, pxL109, pxL110, pxL111, pxL112, pxL113, pxL114, pxL115, pxL116, pxL117, pxL118, pxL119, pxL120, pxL121, pxL122, pxL123, pxL124, pxL125, pxL126, pxL200, pxL240, pxL287, pxL388, pxL400, pxL429, pxL431, pxL440, pxL1240, pxL1600, pxL1681, pxL12028, pxL13849, pxL14880, pxL25173, pxL26908, pxL49600, pxL65535, pxL65536, ↓reduceIte, reduceCtorEq, pxJ_add, pxJ_sub, pxJ_mul, pxJ_neg, pxD_lt_t, pxD_lt_f, pxD_le_t, pxD_le_f, pxD_eq_t, pxD_eq_f, pxJ_lt, pxJ_le, pxJ_eq, pxJ_div, px_b2, px_bs, px_rb0, px_rb1, pxW_some, Option.some.injEq, pxM_eq, pxM_ne, pyN_gI, pyN_pI, pyN_rc, pyN_g1, pyN_a588, pyN_s588, pyN_g3, pyN_a589, pyN_s589, pyN_g4, pyN_a590, pyN_s590, pyN_g5, pyN_a591, pyN_s591, pyN_g6, pyN_a592, pyN_s592, pyN_g7, pyN_a593, pyN_s593, pyN_g8, pyN_a594, pyN_s594, pyN_g9, pyN_a595, pyN_s595, pyN_g10, pyN_a596, pyN_s596, pyN_g11, pyN_a597, pyN_s597, pyN_g19, pyN_a598, pyN_s598, pyN_g21, pyN_a599, pyN_s599, pyN_g31, pyN_a600, pyN_s600, pyN_g32, pyN_a601, pyN_s601, pyN_g38, pyN_a602, pyN_s602, pyN_g39, pyN_a603, pyN_s603, pyN_g46, pyN_a604, pyN_s604, pyN_g47, pyN_a605, pyN_s605, pyN_g48, pyN_a606, pyN_s606, pyN_g49, pyN_a607, pyN_s607, pyN_g55, pyN_a608, pyN_s608, pyN_g56, pyN_a609, pyN_s609, pyN_g57, pyN_a610, pyN_s610, pyN_g58, pyN_a611, pyN_s611, pyN_g59, pyN_a612, pyN_s612, pyN_g60, pyN_a613, pyN_s613, pyN_g74, pyN_a614, pyN_s614, pyN_g75, pyN_a615, pyN_s615, pyN_g76, pyN_a616, pyN_s616, pyN_g78, pyN_a617, pyN_s617, pyN_g79, pyN_a618, pyN_s618, G.1]
    exact pxW_b2 (B) fun v h1 q => pxW_some.mpr q
  · have pl := (pxP_lt (s := s) (p := p) (by omega)).2
    have m := G.2.2 p p0 pl
    rw [← pxP_E p0 pl, c] at m
    have B := n_act_114 (rep := rep) H G X Y I nb e42 e43 e44 rg p0 ok c
    clear rg
    unfold f_X12_act
    rw [pyN_g21 H, px_bs, pyN_a599 H p0 (by omega), px_bs, m]
    try simp (maxSteps := 4000000) (disch := first | assumption | omega | (simp only [pyS_I]; assumption)) only [pxL0, pxL1, pxL2, pxL3, pxL4, pxL5, pxL6, pxL7, pxL8, pxL9, pxL10, pxL11, pxL12, pxL13, pxL14, pxL15, pxL16, pxL17, pxL18, pxL19, pxL20, pxL21, pxL22, pxL23, pxL24, pxL25, pxL26, pxL27, pxL28, pxL29, pxL30, pxL31, pxL32, pxL33, pxL34, pxL35, pxL36, pxL37, pxL38, pxL39, pxL40, pxL41, pxL42, pxL43, pxL44, pxL45, pxL46, pxL47, pxL48, pxL49, pxL51, pxL57, pxL58, pxL59, pxL60, pxL61, pxL62, pxL63, pxL64, pxL65, pxL66, pxL67, pxL68, pxL69, pxL70, pxL71, pxL72, pxL73, pxL74, pxL75, pxL76, pxL77, pxL78, pxL79, pxL80, pxL81, pxL82, pxL83, pxL84, pxL85, pxL86, pxL87, pxL88, pxL89, pxL90, pxL91, pxL92, pxL93, pxL94, pxL95, pxL96, pxL97, pxL98, pxL99, pxL100, pxL101, pxL102, pxL103, pxL104, pxL105, pxL106, pxL107, pxL108, pxL109, pxL110, pxL111, pxL112, pxL113, pxL114, pxL115, pxL116, pxL117, pxL118, pxL119, pxL120, pxL121, pxL122, pxL123, pxL124, pxL125, pxL126, pxL200, pxL240, pxL287, pxL388, pxL400, pxL429, pxL431, pxL440, pxL1240, pxL1600, pxL1681, pxL12028, pxL13849, pxL14880, pxL25173, pxL26908, pxL49600, pxL65535, pxL65536, ↓reduceIte, reduceCtorEq, pxJ_add, pxJ_sub, pxJ_mul, pxJ_neg, pxD_lt_t, pxD_lt_f, pxD_le_t, pxD_le_f, pxD_eq_t, pxD_eq_f, pxJ_lt, pxJ_le, pxJ_eq, pxJ_div, px_b2, px_bs, px_rb0, px_rb1, pxW_some, Option.some.injEq, pxM_eq, pxM_ne, pyN_gI, pyN_pI, pyN_rc, pyN_g1, pyN_a588, pyN_s588, pyN_g3, pyN_a589, pyN_s589, pyN_g4, pyN_a590, pyN_s590, pyN_g5, pyN_a591, pyN_s591, pyN_g6, pyN_a592, pyN_s592, pyN_g7, pyN_a593, pyN_s593, pyN_g8, pyN_a594, pyN_s594, pyN_g9, pyN_a595, pyN_s595, pyN_g10, pyN_a596, pyN_s596, pyN_g11, pyN_a597, pyN_s597, pyN_g19, pyN_a598, pyN_s598, pyN_g21, pyN_a599, pyN_s599, pyN_g31, pyN_a600, pyN_s600, pyN_g32, pyN_a601, pyN_s601, pyN_g38, pyN_a602, pyN_s602, pyN_g39, pyN_a603, pyN_s603, pyN_g46, pyN_a604, pyN_s604, pyN_g47, pyN_a605, pyN_s605, pyN_g48, pyN_a606, pyN_s606, pyN_g49, pyN_a607, pyN_s607, pyN_g55, pyN_a608, pyN_s608, pyN_g56, pyN_a609, pyN_s609, pyN_g57, pyN_a610, pyN_s610, pyN_g58, pyN_a611, pyN_s611, pyN_g59, pyN_a612, pyN_s612, pyN_g60, pyN_a613, pyN_s613, pyN_g74, pyN_a614, pyN_s614, pyN_g75, pyN_a615, pyN_s615, pyN_g76, pyN_a616, pyN_s616, pyN_g78, pyN_a617, pyN_s617, pyN_g79, pyN_a618, pyN_s618, G.1]
    exact pxW_b2 (B) fun v h1 q => pxW_some.mpr q
  · have pl := (pxP_lt (s := s) (p := p) (by omega)).2
    have m := G.2.2 p p0 pl
    rw [← pxP_E p0 pl, c] at m
    have B := n_act_119 (rep := rep) H G X Y I nb e42 e43 e44 rg p0 ok c
    clear rg
    unfold f_X12_act
    rw [pyN_g21 H, px_bs, pyN_a599 H p0 (by omega), px_bs, m]
    try simp (maxSteps := 4000000) (disch := first | assumption | omega | (simp only [pyS_I]; assumption)) only [pxL0, pxL1, pxL2, pxL3, pxL4, pxL5, pxL6, pxL7, pxL8, pxL9, pxL10, pxL11, pxL12, pxL13, pxL14, pxL15, pxL16, pxL17, pxL18, pxL19, pxL20, pxL21, pxL22, pxL23, pxL24, pxL25, pxL26, pxL27, pxL28, pxL29, pxL30, pxL31, pxL32, pxL33, pxL34, pxL35, pxL36, pxL37, pxL38, pxL39, pxL40, pxL41, pxL42, pxL43, pxL44, pxL45, pxL46, pxL47, pxL48, pxL49, pxL51, pxL57, pxL58, pxL59, pxL60, pxL61, pxL62, pxL63, pxL64, pxL65, pxL66, pxL67, pxL68, pxL69, pxL70, pxL71, pxL72, pxL73, pxL74, pxL75, pxL76, pxL77, pxL78, pxL79, pxL80, pxL81, pxL82, pxL83, pxL84, pxL85, pxL86, pxL87, pxL88, pxL89, pxL90, pxL91, pxL92, pxL93, pxL94, pxL95, pxL96, pxL97, pxL98, pxL99, pxL100, pxL101, pxL102, pxL103, pxL104, pxL105, pxL106, pxL107, pxL108, pxL109, pxL110, pxL111, pxL112, pxL113, pxL114, pxL115, pxL116, pxL117, pxL118, pxL119, pxL120, pxL121, pxL122, pxL123, pxL124, pxL125, pxL126, pxL200, pxL240, pxL287, pxL388, pxL400, pxL429, pxL431, pxL440, pxL1240, pxL1600, pxL1681, pxL12028, pxL13849, pxL14880, pxL25173, pxL26908, pxL49600, pxL65535, pxL65536, ↓reduceIte, reduceCtorEq, pxJ_add, pxJ_sub, pxJ_mul, pxJ_neg, pxD_lt_t, pxD_lt_f, pxD_le_t, pxD_le_f, pxD_eq_t, pxD_eq_f, pxJ_lt, pxJ_le, pxJ_eq, pxJ_div, px_b2, px_bs, px_rb0, px_rb1, pxW_some, Option.some.injEq, pxM_eq, pxM_ne, pyN_gI, pyN_pI, pyN_rc, pyN_g1, pyN_a588, pyN_s588, pyN_g3, pyN_a589, pyN_s589, pyN_g4, pyN_a590, pyN_s590, pyN_g5, pyN_a591, pyN_s591, pyN_g6, pyN_a592, pyN_s592, pyN_g7, pyN_a593, pyN_s593, pyN_g8, pyN_a594, pyN_s594, pyN_g9, pyN_a595, pyN_s595, pyN_g10, pyN_a596, pyN_s596, pyN_g11, pyN_a597, pyN_s597, pyN_g19, pyN_a598, pyN_s598, pyN_g21, pyN_a599, pyN_s599, pyN_g31, pyN_a600, pyN_s600, pyN_g32, pyN_a601, pyN_s601, pyN_g38, pyN_a602, pyN_s602, pyN_g39, pyN_a603, pyN_s603, pyN_g46, pyN_a604, pyN_s604, pyN_g47, pyN_a605, pyN_s605, pyN_g48, pyN_a606, pyN_s606, pyN_g49, pyN_a607, pyN_s607, pyN_g55, pyN_a608, pyN_s608, pyN_g56, pyN_a609, pyN_s609, pyN_g57, pyN_a610, pyN_s610, pyN_g58, pyN_a611, pyN_s611, pyN_g59, pyN_a612, pyN_s612, pyN_g60, pyN_a613, pyN_s613, pyN_g74, pyN_a614, pyN_s614, pyN_g75, pyN_a615, pyN_s615, pyN_g76, pyN_a616, pyN_s616, pyN_g78, pyN_a617, pyN_s617, pyN_g79, pyN_a618, pyN_s618, G.1]
    exact pxW_b2 (B) fun v h1 q => pxW_some.mpr q
  · have pl := (pxP_lt (s := s) (p := p) (by omega)).2
    have m := G.2.2 p p0 pl
    rw [← pxP_E p0 pl, c] at m
    have B := n_act_107 (rep := rep) H G X Y I nb e42 e43 e44 rg p0 ok c
    clear rg
    unfold f_X12_act
    rw [pyN_g21 H, px_bs, pyN_a599 H p0 (by omega), px_bs, m]
    try simp (maxSteps := 4000000) (disch := first | assumption | omega | (simp only [pyS_I]; assumption)) only [pxL0, pxL1, pxL2, pxL3, pxL4, pxL5, pxL6, pxL7, pxL8, pxL9, pxL10, pxL11, pxL12, pxL13, pxL14, pxL15, pxL16, pxL17, pxL18, pxL19, pxL20, pxL21, pxL22, pxL23, pxL24, pxL25, pxL26, pxL27, pxL28, pxL29, pxL30, pxL31, pxL32, pxL33, pxL34, pxL35, pxL36, pxL37, pxL38, pxL39, pxL40, pxL41, pxL42, pxL43, pxL44, pxL45, pxL46, pxL47, pxL48, pxL49, pxL51, pxL57, pxL58, pxL59, pxL60, pxL61, pxL62, pxL63, pxL64, pxL65, pxL66, pxL67, pxL68, pxL69, pxL70, pxL71, pxL72, pxL73, pxL74, pxL75, pxL76, pxL77, pxL78, pxL79, pxL80, pxL81, pxL82, pxL83, pxL84, pxL85, pxL86, pxL87, pxL88, pxL89, pxL90, pxL91, pxL92, pxL93, pxL94, pxL95, pxL96, pxL97, pxL98, pxL99, pxL100, pxL101, pxL102, pxL103, pxL104, pxL105, pxL106, pxL107, pxL108, pxL109, pxL110, pxL111, pxL112, pxL113, pxL114, pxL115, pxL116, pxL117, pxL118, pxL119, pxL120, pxL121, pxL122, pxL123, pxL124, pxL125, pxL126, pxL200, pxL240, pxL287, pxL388, pxL400, pxL429, pxL431, pxL440, pxL1240, pxL1600, pxL1681, pxL12028, pxL13849, pxL14880, pxL25173, pxL26908, pxL49600, pxL65535, pxL65536, ↓reduceIte, reduceCtorEq, pxJ_add, pxJ_sub, pxJ_mul, pxJ_neg, pxD_lt_t, pxD_lt_f, pxD_le_t, pxD_le_f, pxD_eq_t, pxD_eq_f, pxJ_lt, pxJ_le, pxJ_eq, pxJ_div, px_b2, px_bs, px_rb0, px_rb1, pxW_some, Option.some.injEq, pxM_eq, pxM_ne, pyN_gI, pyN_pI, pyN_rc, pyN_g1, pyN_a588, pyN_s588, pyN_g3, pyN_a589, pyN_s589, pyN_g4, pyN_a590, pyN_s590, pyN_g5, pyN_a591, pyN_s591, pyN_g6, pyN_a592, pyN_s592, pyN_g7, pyN_a593, pyN_s593, pyN_g8, pyN_a594, pyN_s594, pyN_g9, pyN_a595, pyN_s595, pyN_g10, pyN_a596, pyN_s596, pyN_g11, pyN_a597, pyN_s597, pyN_g19, pyN_a598, pyN_s598, pyN_g21, pyN_a599, pyN_s599, pyN_g31, pyN_a600, pyN_s600, pyN_g32, pyN_a601, pyN_s601, pyN_g38, pyN_a602, pyN_s602, pyN_g39, pyN_a603, pyN_s603, pyN_g46, pyN_a604, pyN_s604, pyN_g47, pyN_a605, pyN_s605, pyN_g48, pyN_a606, pyN_s606, pyN_g49, pyN_a607, pyN_s607, pyN_g55, pyN_a608, pyN_s608, pyN_g56, pyN_a609, pyN_s609, pyN_g57, pyN_a610, pyN_s610, pyN_g58, pyN_a611, pyN_s611, pyN_g59, pyN_a612, pyN_s612, pyN_g60, pyN_a613, pyN_s613, pyN_g74, pyN_a614, pyN_s614, pyN_g75, pyN_a615, pyN_s615, pyN_g76, pyN_a616, pyN_s616, pyN_g78, pyN_a617, pyN_s617, pyN_g79, pyN_a618, pyN_s618, G.1]
    exact pxW_b2 (B) fun v h1 q => pxW_some.mpr q
