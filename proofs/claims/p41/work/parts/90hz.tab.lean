/-! orders line by line: which act is which -/
section
variable {h : jw_H} {oo : Nat} {c : Int}
theorem px_lt60 (t5 : (jw_t h oo).1 = 5) (f3 : pxM h oo 3 = 60) : f_X1_doOne h 571 (some oo) = (g_X1_doOne_b120  h 571 (some oo)) := by
  unfold f_X1_doOne
  rw [px_gI t5, f3]
  rfl
theorem px_lt62 (t5 : (jw_t h oo).1 = 5) (f3 : pxM h oo 3 = 62) : f_X1_doOne h 571 (some oo) = (g_X1_doOne_b120  h 571 (some oo)) := by
  unfold f_X1_doOne
  rw [px_gI t5, f3]
  rfl
theorem px_lt115 (t5 : (jw_t h oo).1 = 5) (f3 : pxM h oo 3 = 115) : f_X1_doOne h 571 (some oo) = (g_X1_doOne_b120  h 571 (some oo)) := by
  unfold f_X1_doOne
  rw [px_gI t5, f3]
  rfl
theorem px_lt122 (t5 : (jw_t h oo).1 = 5) (f3 : pxM h oo 3 = 122) : f_X1_doOne h 571 (some oo) = (g_X1_doOne_b120  h 571 (some oo)) := by
  unfold f_X1_doOne
  rw [px_gI t5, f3]
  rfl
theorem px_lt97 (t5 : (jw_t h oo).1 = 5) (f3 : pxM h oo 3 = 97) : f_X1_doOne h 571 (some oo) = ((jw_gR h 1 (some 571) 0).bind fun v5 =>
 (jw_gR h 1 (some 571) 9).bind fun v6 =>
 (jw_rc h 6 v5).bind fun a7 =>
 jw_b2 (f_X6_rowsOf h a7 (some oo) v6) fun w9 h8 =>
 (jw_gR h8 1 (some 571) 9).bind fun v10 =>
 (jw_rc h8 1 (some 571)).bind fun a11 =>
 jw_b2 (f_X1_putDue h8 a11 v10) fun w13 h12 =>
 some ((), h12)) := by
  unfold f_X1_doOne
  rw [px_gI t5, f3]
  rfl
theorem px_lt99 (t5 : (jw_t h oo).1 = 5) (f3 : pxM h oo 3 = 99) : f_X1_doOne h 571 (some oo) = ((jw_rc h 1 (some 571)).bind fun a15 =>
 jw_b2 (f_X1_goAway h a15) fun w17 h16 =>
 (jw_gR h16 1 (some 571) 0).bind fun v18 =>
 (jw_gR h16 1 (some 571) 9).bind fun v19 =>
 (jw_rc h16 6 v18).bind fun a20 =>
 jw_b2 (f_X6_rowsOf h16 a20 (some oo) v19) fun w22 h21 =>
 (jw_gI h21 5 (some oo) 4).bind fun v23 =>
 if v23 = (3 : Int32) then ((jw_gI h21 5 (some oo) 12).bind fun v25 =>
 if v25 = 0 then (some ((), h21))
 else (g_X1_doOne_b218  h21 571))
 else (g_X1_doOne_b218  h21 571)) := by
  unfold f_X1_doOne
  rw [px_gI t5, f3]
  rfl
theorem px_lt100 (t5 : (jw_t h oo).1 = 5) (f3 : pxM h oo 3 = 100) : f_X1_doOne h 571 (some oo) = ((jw_rc h 1 (some 571)).bind fun a28 =>
 jw_b2 (f_X1_goAway h a28) fun w30 h29 =>
 some ((), h29)) := by
  unfold f_X1_doOne
  rw [px_gI t5, f3]
  rfl
theorem px_lt101 (t5 : (jw_t h oo).1 = 5) (f3 : pxM h oo 3 = 101) : f_X1_doOne h 571 (some oo) = ((jw_rc h 1 (some 571)).bind fun a32 =>
 jw_b2 (f_X1_exchange h a32) fun w34 h33 =>
 some ((), h33)) := by
  unfold f_X1_doOne
  rw [px_gI t5, f3]
  rfl
theorem px_lt105 (t5 : (jw_t h oo).1 = 5) (f3 : pxM h oo 3 = 105) : f_X1_doOne h 571 (some oo) = ((jw_gR h 1 (some 571) 0).bind fun v36 =>
 (jw_gR h 1 (some 571) 9).bind fun v37 =>
 (jw_rc h 6 v36).bind fun a38 =>
 jw_b2 (f_X6_rowsOf h a38 (some oo) v37) fun w40 h39 =>
 (jw_gR h39 1 (some 571) 9).bind fun v41 =>
 (jw_rc h39 1 (some 571)).bind fun a42 =>
 jw_b2 (f_X1_putNew h39 a42 v41) fun w44 h43 =>
 some ((), h43)) := by
  unfold f_X1_doOne
  rw [px_gI t5, f3]
  rfl
theorem px_lt106 (t5 : (jw_t h oo).1 = 5) (f3 : pxM h oo 3 = 106) : f_X1_doOne h 571 (some oo) = ((jw_rc h 1 (some 571)).bind fun a46 =>
 jw_b2 (f_X1_join h a46) fun w48 h47 =>
 some ((), h47)) := by
  unfold f_X1_doOne
  rw [px_gI t5, f3]
  rfl
theorem px_lt114 (t5 : (jw_t h oo).1 = 5) (f3 : pxM h oo 3 = 114) : f_X1_doOne h 571 (some oo) = ((jw_gR h 1 (some 571) 2).bind fun v50 =>
 (jw_gI h 5 (some oo) 5).bind fun v51 =>
 (jw_rc h 8 v50).bind fun a52 =>
 jw_b2 (f_X8_file h a52 v51) fun w54 h53 =>
 (jw_rc h53 1 (some 571)).bind fun a55 =>
 jw_b2 (f_X1_putDue h53 a55 w54) fun w57 h56 =>
 some ((), h56)) := by
  unfold f_X1_doOne
  rw [px_gI t5, f3]
  rfl
theorem px_lt117 (t5 : (jw_t h oo).1 = 5) (f3 : pxM h oo 3 = 117) : f_X1_doOne h 571 (some oo) = ((jw_gR h 1 (some 571) 2).bind fun v60 =>
 (jw_gR h 8 v60 0).bind fun v61 =>
 (jw_gI h 7 v61 2).bind fun v62 =>
 if v62 = 0 then (g_X1_doOne_b273 h 571 571 (5 : Int32))
 else (g_X1_doOne_b273 h 571 571 (0 : Int32))) := by
  unfold f_X1_doOne
  rw [px_gI t5, f3]
  rfl
theorem px_lt118 (t5 : (jw_t h oo).1 = 5) (f3 : pxM h oo 3 = 118) : f_X1_doOne h 571 (some oo) = ((jw_gI h 5 (some oo) 5).bind fun v65 =>
 (jw_rc h 1 (some 571)).bind fun a66 =>
 jw_b2 (f_X1_part h a66 v65) fun w68 h67 =>
 some ((), h67)) := by
  unfold f_X1_doOne
  rw [px_gI t5, f3]
  rfl
theorem px_ltT (t5 : (jw_t h oo).1 = 5) (f3 : pxM h oo 3 = c) (cc : c = 112 ∨ c = 110 ∨ c = 61 ∨ c = 104 ∨ c = 72 ∨ c = 107 ∨ c = 119) : f_X1_doOne h 571 (some oo) = ((jw_rc h 1 (some 571)).bind fun a70 => jw_b2 (f_X1_tell h a70 (some oo)) fun w72 h71 => some ((), h71)) := by
  unfold f_X1_doOne
  rw [px_gI t5, f3]
  rcases cc with c | c | c | c | c | c | c <;> (rw [c]; rfl)
end
