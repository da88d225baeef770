theorem jw_clr_of {L : List (Option Value)} {j : Nat} (h : jw_long L[j]? = false) : jw_clr L (j + 1) = L := by
  simp only [jw_clr, h, cond_false]
set_option maxRecDepth 100000 in
theorem ca_IllegalArgumentException : Cond.castable "java/lang/IllegalArgumentException" "java/lang/IllegalArgumentException" ∈ jw_Nb := (jw_tn (jw_c4 _ (List.mem_of_getElem? (i := 37) rfl)) rfl)
set_option maxRecDepth 100000 in
theorem ca_IllegalStateException : Cond.castable "java/lang/IllegalStateException" "java/lang/IllegalStateException" ∈ jw_Nb := (jw_tn (jw_c4 _ (List.mem_of_getElem? (i := 104) rfl)) rfl)
set_option maxRecDepth 100000 in
theorem ca_IndexOutOfBoundsException : Cond.castable "java/lang/IndexOutOfBoundsException" "java/lang/IndexOutOfBoundsException" ∈ jw_Nb := (jw_tn (jw_c5 _ (List.mem_of_getElem? (i := 217) rfl)) rfl)
set_option maxRecDepth 100000 in
theorem mt_X11_init : jw_mt yX11_init cX11_init 3 none 0 := ⟨((jw_tt (jw_c1 _ (List.mem_of_getElem? (i := 27) rfl)) rfl)), ((jw_tt (jw_c1 _ (List.mem_of_getElem? (i := 1) rfl)) rfl)), ⟨by decide, by decide, by decide +kernel⟩, by decide⟩
set_option maxRecDepth 100000 in
theorem in_X11_init : Cond.instanceMethod yX11_init ∈ jw_T := (jw_tt (jw_c1 _ (List.mem_of_getElem? (i := 26) rfl)) rfl)
set_option maxRecDepth 100000 in
theorem lk_L_98 : jw_lk RL 98 yX11_init := Or.inl ((jw_tt (jw_c1 _ (List.mem_of_getElem? (i := 25) rfl)) rfl))
set_option maxRecDepth 100000 in
theorem mt_X11_at : jw_mt yX11_at cX11_at 4 (some .int) 2 := ⟨((jw_tt (jw_c6 _ (List.mem_of_getElem? (i := 184) rfl)) rfl)), ((jw_tt (jw_c1 _ (List.mem_of_getElem? (i := 1) rfl)) rfl)), ⟨by decide, by decide, by decide +kernel⟩, by decide⟩
set_option maxRecDepth 100000 in
theorem in_X11_at : Cond.instanceMethod yX11_at ∈ jw_T := (jw_tt (jw_c6 _ (List.mem_of_getElem? (i := 182) rfl)) rfl)
set_option maxRecDepth 100000 in
theorem se_X11_at : Cond.selects yX11_at.cls yX11_at yX11_at ∈ jw_T := (jw_tt (jw_c6 _ (List.mem_of_getElem? (i := 183) rfl)) rfl)
set_option maxRecDepth 100000 in
theorem lk_L_48 : jw_lk RL 48 yX11_at := Or.inl ((jw_tt (jw_c6 _ (List.mem_of_getElem? (i := 181) rfl)) rfl))
set_option maxRecDepth 100000 in
theorem mt_X11_clearOut : jw_mt yX11_clearOut cX11_clearOut 2 (some .int) 0 := ⟨((jw_tt (jw_c3 _ (List.mem_of_getElem? (i := 228) rfl)) rfl)), ((jw_tt (jw_c1 _ (List.mem_of_getElem? (i := 1) rfl)) rfl)), ⟨by decide, by decide, by decide +kernel⟩, by decide⟩
set_option maxRecDepth 100000 in
theorem in_X11_clearOut : Cond.instanceMethod yX11_clearOut ∈ jw_T := (jw_tt (jw_c3 _ (List.mem_of_getElem? (i := 226) rfl)) rfl)
set_option maxRecDepth 100000 in
theorem se_X11_clearOut : Cond.selects yX11_clearOut.cls yX11_clearOut yX11_clearOut ∈ jw_T := (jw_tt (jw_c3 _ (List.mem_of_getElem? (i := 227) rfl)) rfl)
set_option maxRecDepth 100000 in
theorem lk_L_204 : jw_lk RL 204 yX11_clearOut := Or.inl ((jw_tt (jw_c3 _ (List.mem_of_getElem? (i := 225) rfl)) rfl))
set_option maxRecDepth 100000 in
theorem mt_X11_deeds : jw_mt yX11_deeds cX11_deeds 1 (some .int) 0 := ⟨((jw_tt (jw_c3 _ (List.mem_of_getElem? (i := 200) rfl)) rfl)), ((jw_tt (jw_c1 _ (List.mem_of_getElem? (i := 1) rfl)) rfl)), ⟨by decide, by decide, by decide +kernel⟩, by decide⟩
set_option maxRecDepth 100000 in
theorem in_X11_deeds : Cond.instanceMethod yX11_deeds ∈ jw_T := (jw_tt (jw_c3 _ (List.mem_of_getElem? (i := 198) rfl)) rfl)
set_option maxRecDepth 100000 in
theorem se_X11_deeds : Cond.selects yX11_deeds.cls yX11_deeds yX11_deeds ∈ jw_T := (jw_tt (jw_c3 _ (List.mem_of_getElem? (i := 199) rfl)) rfl)
set_option maxRecDepth 100000 in
theorem lk_L_153 : jw_lk RL 153 yX11_deeds := Or.inl ((jw_tt (jw_c3 _ (List.mem_of_getElem? (i := 197) rfl)) rfl))
set_option maxRecDepth 100000 in
theorem mt_X11_differ : jw_mt yX11_differ cX11_differ 3 (some .int) 1 := ⟨((jw_tt (jw_c7 _ (List.mem_of_getElem? (i := 70) rfl)) rfl)), ((jw_tt (jw_c1 _ (List.mem_of_getElem? (i := 1) rfl)) rfl)), ⟨by decide, by decide, by decide +kernel⟩, by decide⟩
set_option maxRecDepth 100000 in
theorem in_X11_differ : Cond.instanceMethod yX11_differ ∈ jw_T := (jw_tt (jw_c7 _ (List.mem_of_getElem? (i := 68) rfl)) rfl)
set_option maxRecDepth 100000 in
theorem se_X11_differ : Cond.selects yX11_differ.cls yX11_differ yX11_differ ∈ jw_T := (jw_tt (jw_c7 _ (List.mem_of_getElem? (i := 69) rfl)) rfl)
set_option maxRecDepth 100000 in
theorem lk_L_92 : jw_lk RL 92 yX11_differ := Or.inl ((jw_tt (jw_c7 _ (List.mem_of_getElem? (i := 67) rfl)) rfl))
set_option maxRecDepth 100000 in
theorem mt_X11_fault : jw_mt yX11_fault cX11_fault 1 (some .int) 0 := ⟨((jw_tt (jw_c3 _ (List.mem_of_getElem? (i := 74) rfl)) rfl)), ((jw_tt (jw_c1 _ (List.mem_of_getElem? (i := 1) rfl)) rfl)), ⟨by decide, by decide, by decide +kernel⟩, by decide⟩
set_option maxRecDepth 100000 in
theorem in_X11_fault : Cond.instanceMethod yX11_fault ∈ jw_T := (jw_tt (jw_c3 _ (List.mem_of_getElem? (i := 72) rfl)) rfl)
set_option maxRecDepth 100000 in
theorem se_X11_fault : Cond.selects yX11_fault.cls yX11_fault yX11_fault ∈ jw_T := (jw_tt (jw_c3 _ (List.mem_of_getElem? (i := 73) rfl)) rfl)
set_option maxRecDepth 100000 in
theorem lk_L_115 : jw_lk RL 115 yX11_fault := Or.inl ((jw_tt (jw_c3 _ (List.mem_of_getElem? (i := 71) rfl)) rfl))
set_option maxRecDepth 100000 in
theorem mt_X11_fileAt : jw_mt yX11_fileAt cX11_fileAt 5 (some .int) 3 := ⟨((jw_tt (jw_c7 _ (List.mem_of_getElem? (i := 39) rfl)) rfl)), ((jw_tt (jw_c1 _ (List.mem_of_getElem? (i := 1) rfl)) rfl)), ⟨by decide, by decide, by decide +kernel⟩, by decide⟩
set_option maxRecDepth 100000 in
theorem in_X11_fileAt : Cond.instanceMethod yX11_fileAt ∈ jw_T := (jw_tt (jw_c7 _ (List.mem_of_getElem? (i := 37) rfl)) rfl)
set_option maxRecDepth 100000 in
theorem se_X11_fileAt : Cond.selects yX11_fileAt.cls yX11_fileAt yX11_fileAt ∈ jw_T := (jw_tt (jw_c7 _ (List.mem_of_getElem? (i := 38) rfl)) rfl)
set_option maxRecDepth 100000 in
theorem lk_L_78 : jw_lk RL 78 yX11_fileAt := Or.inl ((jw_tt (jw_c7 _ (List.mem_of_getElem? (i := 36) rfl)) rfl))
set_option maxRecDepth 100000 in
theorem mt_X11_fileLength : jw_mt yX11_fileLength cX11_fileLength 4 (some .int) 2 := ⟨((jw_tt (jw_c7 _ (List.mem_of_getElem? (i := 31) rfl)) rfl)), ((jw_tt (jw_c1 _ (List.mem_of_getElem? (i := 1) rfl)) rfl)), ⟨by decide, by decide, by decide +kernel⟩, by decide⟩
set_option maxRecDepth 100000 in
theorem in_X11_fileLength : Cond.instanceMethod yX11_fileLength ∈ jw_T := (jw_tt (jw_c7 _ (List.mem_of_getElem? (i := 29) rfl)) rfl)
set_option maxRecDepth 100000 in
theorem se_X11_fileLength : Cond.selects yX11_fileLength.cls yX11_fileLength yX11_fileLength ∈ jw_T := (jw_tt (jw_c7 _ (List.mem_of_getElem? (i := 30) rfl)) rfl)
set_option maxRecDepth 100000 in
theorem lk_L_75 : jw_lk RL 75 yX11_fileLength := Or.inl ((jw_tt (jw_c7 _ (List.mem_of_getElem? (i := 28) rfl)) rfl))
set_option maxRecDepth 100000 in
theorem mt_X11_fileRows : jw_mt yX11_fileRows cX11_fileRows 3 (some .int) 1 := ⟨((jw_tt (jw_c7 _ (List.mem_of_getElem? (i := 22) rfl)) rfl)), ((jw_tt (jw_c1 _ (List.mem_of_getElem? (i := 1) rfl)) rfl)), ⟨by decide, by decide, by decide +kernel⟩, by decide⟩
set_option maxRecDepth 100000 in
theorem in_X11_fileRows : Cond.instanceMethod yX11_fileRows ∈ jw_T := (jw_tt (jw_c7 _ (List.mem_of_getElem? (i := 20) rfl)) rfl)
set_option maxRecDepth 100000 in
theorem se_X11_fileRows : Cond.selects yX11_fileRows.cls yX11_fileRows yX11_fileRows ∈ jw_T := (jw_tt (jw_c7 _ (List.mem_of_getElem? (i := 21) rfl)) rfl)
set_option maxRecDepth 100000 in
theorem lk_L_72 : jw_lk RL 72 yX11_fileRows := Or.inl ((jw_tt (jw_c7 _ (List.mem_of_getElem? (i := 19) rfl)) rfl))
set_option maxRecDepth 100000 in
theorem mt_X11_find : jw_mt yX11_find cX11_find 2 (some .int) 1 := ⟨((jw_tt (jw_c7 _ (List.mem_of_getElem? (i := 47) rfl)) rfl)), ((jw_tt (jw_c1 _ (List.mem_of_getElem? (i := 1) rfl)) rfl)), ⟨by decide, by decide, by decide +kernel⟩, by decide⟩
set_option maxRecDepth 100000 in
theorem in_X11_find : Cond.instanceMethod yX11_find ∈ jw_T := (jw_tt (jw_c7 _ (List.mem_of_getElem? (i := 45) rfl)) rfl)
set_option maxRecDepth 100000 in
theorem se_X11_find : Cond.selects yX11_find.cls yX11_find yX11_find ∈ jw_T := (jw_tt (jw_c7 _ (List.mem_of_getElem? (i := 46) rfl)) rfl)
set_option maxRecDepth 100000 in
theorem lk_L_82 : jw_lk RL 82 yX11_find := Or.inl ((jw_tt (jw_c7 _ (List.mem_of_getElem? (i := 44) rfl)) rfl))
set_option maxRecDepth 100000 in
theorem mt_X11_findEnd : jw_mt yX11_findEnd cX11_findEnd 2 (some .int) 1 := ⟨((jw_tt (jw_c7 _ (List.mem_of_getElem? (i := 63) rfl)) rfl)), ((jw_tt (jw_c1 _ (List.mem_of_getElem? (i := 1) rfl)) rfl)), ⟨by decide, by decide, by decide +kernel⟩, by decide⟩
set_option maxRecDepth 100000 in
theorem in_X11_findEnd : Cond.instanceMethod yX11_findEnd ∈ jw_T := (jw_tt (jw_c7 _ (List.mem_of_getElem? (i := 61) rfl)) rfl)
set_option maxRecDepth 100000 in
theorem se_X11_findEnd : Cond.selects yX11_findEnd.cls yX11_findEnd yX11_findEnd ∈ jw_T := (jw_tt (jw_c7 _ (List.mem_of_getElem? (i := 62) rfl)) rfl)
set_option maxRecDepth 100000 in
theorem lk_L_89 : jw_lk RL 89 yX11_findEnd := Or.inl ((jw_tt (jw_c7 _ (List.mem_of_getElem? (i := 60) rfl)) rfl))
set_option maxRecDepth 100000 in
theorem mt_X11_findStart : jw_mt yX11_findStart cX11_findStart 2 (some .int) 1 := ⟨((jw_tt (jw_c7 _ (List.mem_of_getElem? (i := 55) rfl)) rfl)), ((jw_tt (jw_c1 _ (List.mem_of_getElem? (i := 1) rfl)) rfl)), ⟨by decide, by decide, by decide +kernel⟩, by decide⟩
set_option maxRecDepth 100000 in
theorem in_X11_findStart : Cond.instanceMethod yX11_findStart ∈ jw_T := (jw_tt (jw_c7 _ (List.mem_of_getElem? (i := 53) rfl)) rfl)
set_option maxRecDepth 100000 in
theorem se_X11_findStart : Cond.selects yX11_findStart.cls yX11_findStart yX11_findStart ∈ jw_T := (jw_tt (jw_c7 _ (List.mem_of_getElem? (i := 54) rfl)) rfl)
set_option maxRecDepth 100000 in
theorem lk_L_86 : jw_lk RL 86 yX11_findStart := Or.inl ((jw_tt (jw_c7 _ (List.mem_of_getElem? (i := 52) rfl)) rfl))
set_option maxRecDepth 100000 in
theorem mt_X11_held : jw_mt yX11_held cX11_held 1 (some .int) 0 := ⟨((jw_tt (jw_c3 _ (List.mem_of_getElem? (i := 220) rfl)) rfl)), ((jw_tt (jw_c1 _ (List.mem_of_getElem? (i := 1) rfl)) rfl)), ⟨by decide, by decide, by decide +kernel⟩, by decide⟩
set_option maxRecDepth 100000 in
theorem in_X11_held : Cond.instanceMethod yX11_held ∈ jw_T := (jw_tt (jw_c3 _ (List.mem_of_getElem? (i := 218) rfl)) rfl)
set_option maxRecDepth 100000 in
theorem se_X11_held : Cond.selects yX11_held.cls yX11_held yX11_held ∈ jw_T := (jw_tt (jw_c3 _ (List.mem_of_getElem? (i := 219) rfl)) rfl)
set_option maxRecDepth 100000 in
theorem lk_L_184 : jw_lk RL 184 yX11_held := Or.inl ((jw_tt (jw_c3 _ (List.mem_of_getElem? (i := 217) rfl)) rfl))
set_option maxRecDepth 100000 in
theorem mt_X11_heldAt : jw_mt yX11_heldAt cX11_heldAt 4 (some .int) 2 := ⟨((jw_tt (jw_c6 _ (List.mem_of_getElem? (i := 239) rfl)) rfl)), ((jw_tt (jw_c1 _ (List.mem_of_getElem? (i := 1) rfl)) rfl)), ⟨by decide, by decide, by decide +kernel⟩, by decide⟩
set_option maxRecDepth 100000 in
theorem in_X11_heldAt : Cond.instanceMethod yX11_heldAt ∈ jw_T := (jw_tt (jw_c6 _ (List.mem_of_getElem? (i := 237) rfl)) rfl)
set_option maxRecDepth 100000 in
theorem se_X11_heldAt : Cond.selects yX11_heldAt.cls yX11_heldAt yX11_heldAt ∈ jw_T := (jw_tt (jw_c6 _ (List.mem_of_getElem? (i := 238) rfl)) rfl)
set_option maxRecDepth 100000 in
theorem lk_L_63 : jw_lk RL 63 yX11_heldAt := Or.inl ((jw_tt (jw_c6 _ (List.mem_of_getElem? (i := 236) rfl)) rfl))
set_option maxRecDepth 100000 in
theorem mt_X11_heldLength : jw_mt yX11_heldLength cX11_heldLength 2 (some .int) 1 := ⟨((jw_tt (jw_c6 _ (List.mem_of_getElem? (i := 231) rfl)) rfl)), ((jw_tt (jw_c1 _ (List.mem_of_getElem? (i := 1) rfl)) rfl)), ⟨by decide, by decide, by decide +kernel⟩, by decide⟩
set_option maxRecDepth 100000 in
theorem in_X11_heldLength : Cond.instanceMethod yX11_heldLength ∈ jw_T := (jw_tt (jw_c6 _ (List.mem_of_getElem? (i := 229) rfl)) rfl)
set_option maxRecDepth 100000 in
theorem se_X11_heldLength : Cond.selects yX11_heldLength.cls yX11_heldLength yX11_heldLength ∈ jw_T := (jw_tt (jw_c6 _ (List.mem_of_getElem? (i := 230) rfl)) rfl)
set_option maxRecDepth 100000 in
theorem lk_L_60 : jw_lk RL 60 yX11_heldLength := Or.inl ((jw_tt (jw_c6 _ (List.mem_of_getElem? (i := 228) rfl)) rfl))
set_option maxRecDepth 100000 in
theorem mt_X11_id : jw_mt yX11_id cX11_id 2 (some .int) 1 := ⟨((jw_tt (jw_c6 _ (List.mem_of_getElem? (i := 193) rfl)) rfl)), ((jw_tt (jw_c1 _ (List.mem_of_getElem? (i := 1) rfl)) rfl)), ⟨by decide, by decide, by decide +kernel⟩, by decide⟩
set_option maxRecDepth 100000 in
theorem in_X11_id : Cond.instanceMethod yX11_id ∈ jw_T := (jw_tt (jw_c6 _ (List.mem_of_getElem? (i := 191) rfl)) rfl)
set_option maxRecDepth 100000 in
theorem se_X11_id : Cond.selects yX11_id.cls yX11_id yX11_id ∈ jw_T := (jw_tt (jw_c6 _ (List.mem_of_getElem? (i := 192) rfl)) rfl)
set_option maxRecDepth 100000 in
theorem lk_L_51 : jw_lk RL 51 yX11_id := Or.inl ((jw_tt (jw_c6 _ (List.mem_of_getElem? (i := 190) rfl)) rfl))
set_option maxRecDepth 100000 in
theorem mt_X11_isSound : jw_mt yX11_isSound cX11_isSound 1 (some .boolean) 0 := ⟨((jw_tt (jw_c3 _ (List.mem_of_getElem? (i := 236) rfl)) rfl)), ((jw_tt (jw_c1 _ (List.mem_of_getElem? (i := 1) rfl)) rfl)), ⟨by decide, by decide, by decide +kernel⟩, by decide⟩
set_option maxRecDepth 100000 in
theorem in_X11_isSound : Cond.instanceMethod yX11_isSound ∈ jw_T := (jw_tt (jw_c3 _ (List.mem_of_getElem? (i := 234) rfl)) rfl)
set_option maxRecDepth 100000 in
theorem se_X11_isSound : Cond.selects yX11_isSound.cls yX11_isSound yX11_isSound ∈ jw_T := (jw_tt (jw_c3 _ (List.mem_of_getElem? (i := 235) rfl)) rfl)
set_option maxRecDepth 100000 in
theorem lk_L_234 : jw_lk RL 234 yX11_isSound := Or.inl ((jw_tt (jw_c3 _ (List.mem_of_getElem? (i := 233) rfl)) rfl))
set_option maxRecDepth 100000 in
theorem mt_X11_keep : jw_mt yX11_keep cX11_keep 4 (some .int) 1 := ⟨((jw_tt (jw_c5 _ (List.mem_of_getElem? (i := 210) rfl)) rfl)), ((jw_tt (jw_c1 _ (List.mem_of_getElem? (i := 1) rfl)) rfl)), ⟨by decide, by decide, by decide +kernel⟩, by decide⟩
set_option maxRecDepth 100000 in
theorem in_X11_keep : Cond.instanceMethod yX11_keep ∈ jw_T := (jw_tt (jw_c5 _ (List.mem_of_getElem? (i := 208) rfl)) rfl)
set_option maxRecDepth 100000 in
theorem se_X11_keep : Cond.selects yX11_keep.cls yX11_keep yX11_keep ∈ jw_T := (jw_tt (jw_c5 _ (List.mem_of_getElem? (i := 209) rfl)) rfl)
set_option maxRecDepth 100000 in
theorem lk_L_21 : jw_lk RL 21 yX11_keep := Or.inl ((jw_tt (jw_c5 _ (List.mem_of_getElem? (i := 207) rfl)) rfl))
set_option maxRecDepth 100000 in
theorem mt_X11_length : jw_mt yX11_length cX11_length 2 (some .int) 1 := ⟨((jw_tt (jw_c6 _ (List.mem_of_getElem? (i := 174) rfl)) rfl)), ((jw_tt (jw_c1 _ (List.mem_of_getElem? (i := 1) rfl)) rfl)), ⟨by decide, by decide, by decide +kernel⟩, by decide⟩
set_option maxRecDepth 100000 in
theorem in_X11_length : Cond.instanceMethod yX11_length ∈ jw_T := (jw_tt (jw_c6 _ (List.mem_of_getElem? (i := 172) rfl)) rfl)
set_option maxRecDepth 100000 in
theorem se_X11_length : Cond.selects yX11_length.cls yX11_length yX11_length ∈ jw_T := (jw_tt (jw_c6 _ (List.mem_of_getElem? (i := 173) rfl)) rfl)
set_option maxRecDepth 100000 in
theorem lk_L_45 : jw_lk RL 45 yX11_length := Or.inl ((jw_tt (jw_c6 _ (List.mem_of_getElem? (i := 171) rfl)) rfl))
set_option maxRecDepth 100000 in
theorem mt_X11_lineOf : jw_mt yX11_lineOf cX11_lineOf 2 (some .int) 1 := ⟨((jw_tt (jw_c3 _ (List.mem_of_getElem? (i := 208) rfl)) rfl)), ((jw_tt (jw_c1 _ (List.mem_of_getElem? (i := 1) rfl)) rfl)), ⟨by decide, by decide, by decide +kernel⟩, by decide⟩
set_option maxRecDepth 100000 in
theorem in_X11_lineOf : Cond.instanceMethod yX11_lineOf ∈ jw_T := (jw_tt (jw_c3 _ (List.mem_of_getElem? (i := 206) rfl)) rfl)
set_option maxRecDepth 100000 in
theorem se_X11_lineOf : Cond.selects yX11_lineOf.cls yX11_lineOf yX11_lineOf ∈ jw_T := (jw_tt (jw_c3 _ (List.mem_of_getElem? (i := 207) rfl)) rfl)
set_option maxRecDepth 100000 in
theorem lk_L_170 : jw_lk RL 170 yX11_lineOf := Or.inl ((jw_tt (jw_c3 _ (List.mem_of_getElem? (i := 205) rfl)) rfl))
set_option maxRecDepth 100000 in
theorem mt_X11_lines : jw_mt yX11_lines cX11_lines 1 (some .int) 0 := ⟨((jw_tt (jw_c3 _ (List.mem_of_getElem? (i := 204) rfl)) rfl)), ((jw_tt (jw_c1 _ (List.mem_of_getElem? (i := 1) rfl)) rfl)), ⟨by decide, by decide, by decide +kernel⟩, by decide⟩
set_option maxRecDepth 100000 in
theorem in_X11_lines : Cond.instanceMethod yX11_lines ∈ jw_T := (jw_tt (jw_c3 _ (List.mem_of_getElem? (i := 202) rfl)) rfl)
set_option maxRecDepth 100000 in
theorem se_X11_lines : Cond.selects yX11_lines.cls yX11_lines yX11_lines ∈ jw_T := (jw_tt (jw_c3 _ (List.mem_of_getElem? (i := 203) rfl)) rfl)
set_option maxRecDepth 100000 in
theorem lk_L_157 : jw_lk RL 157 yX11_lines := Or.inl ((jw_tt (jw_c3 _ (List.mem_of_getElem? (i := 201) rfl)) rfl))
set_option maxRecDepth 100000 in
theorem mt_X11_mark : jw_mt yX11_mark cX11_mark 2 (some .int) 1 := ⟨((jw_tt (jw_c6 _ (List.mem_of_getElem? (i := 201) rfl)) rfl)), ((jw_tt (jw_c1 _ (List.mem_of_getElem? (i := 1) rfl)) rfl)), ⟨by decide, by decide, by decide +kernel⟩, by decide⟩
set_option maxRecDepth 100000 in
theorem in_X11_mark : Cond.instanceMethod yX11_mark ∈ jw_T := (jw_tt (jw_c6 _ (List.mem_of_getElem? (i := 199) rfl)) rfl)
set_option maxRecDepth 100000 in
theorem se_X11_mark : Cond.selects yX11_mark.cls yX11_mark yX11_mark ∈ jw_T := (jw_tt (jw_c6 _ (List.mem_of_getElem? (i := 200) rfl)) rfl)
set_option maxRecDepth 100000 in
theorem lk_L_54 : jw_lk RL 54 yX11_mark := Or.inl ((jw_tt (jw_c6 _ (List.mem_of_getElem? (i := 198) rfl)) rfl))
set_option maxRecDepth 100000 in
theorem mt_X11_outAt : jw_mt yX11_outAt cX11_outAt 4 (some .int) 2 := ⟨((jw_tt (jw_c7 _ (List.mem_of_getElem? (i := 15) rfl)) rfl)), ((jw_tt (jw_c1 _ (List.mem_of_getElem? (i := 1) rfl)) rfl)), ⟨by decide, by decide, by decide +kernel⟩, by decide⟩
set_option maxRecDepth 100000 in
theorem in_X11_outAt : Cond.instanceMethod yX11_outAt ∈ jw_T := (jw_tt (jw_c7 _ (List.mem_of_getElem? (i := 13) rfl)) rfl)
set_option maxRecDepth 100000 in
theorem se_X11_outAt : Cond.selects yX11_outAt.cls yX11_outAt yX11_outAt ∈ jw_T := (jw_tt (jw_c7 _ (List.mem_of_getElem? (i := 14) rfl)) rfl)
set_option maxRecDepth 100000 in
theorem lk_L_69 : jw_lk RL 69 yX11_outAt := Or.inl ((jw_tt (jw_c7 _ (List.mem_of_getElem? (i := 12) rfl)) rfl))
set_option maxRecDepth 100000 in
theorem mt_X11_outLength : jw_mt yX11_outLength cX11_outLength 2 (some .int) 1 := ⟨((jw_tt (jw_c7 _ (List.mem_of_getElem? (i := 7) rfl)) rfl)), ((jw_tt (jw_c1 _ (List.mem_of_getElem? (i := 1) rfl)) rfl)), ⟨by decide, by decide, by decide +kernel⟩, by decide⟩
set_option maxRecDepth 100000 in
theorem in_X11_outLength : Cond.instanceMethod yX11_outLength ∈ jw_T := (jw_tt (jw_c7 _ (List.mem_of_getElem? (i := 5) rfl)) rfl)
set_option maxRecDepth 100000 in
theorem se_X11_outLength : Cond.selects yX11_outLength.cls yX11_outLength yX11_outLength ∈ jw_T := (jw_tt (jw_c7 _ (List.mem_of_getElem? (i := 6) rfl)) rfl)
set_option maxRecDepth 100000 in
theorem lk_L_66 : jw_lk RL 66 yX11_outLength := Or.inl ((jw_tt (jw_c7 _ (List.mem_of_getElem? (i := 4) rfl)) rfl))
set_option maxRecDepth 100000 in
theorem mt_X11_outs : jw_mt yX11_outs cX11_outs 1 (some .int) 0 := ⟨((jw_tt (jw_c3 _ (List.mem_of_getElem? (i := 224) rfl)) rfl)), ((jw_tt (jw_c1 _ (List.mem_of_getElem? (i := 1) rfl)) rfl)), ⟨by decide, by decide, by decide +kernel⟩, by decide⟩
set_option maxRecDepth 100000 in
theorem in_X11_outs : Cond.instanceMethod yX11_outs ∈ jw_T := (jw_tt (jw_c3 _ (List.mem_of_getElem? (i := 222) rfl)) rfl)
set_option maxRecDepth 100000 in
theorem se_X11_outs : Cond.selects yX11_outs.cls yX11_outs yX11_outs ∈ jw_T := (jw_tt (jw_c3 _ (List.mem_of_getElem? (i := 223) rfl)) rfl)
set_option maxRecDepth 100000 in
theorem lk_L_194 : jw_lk RL 194 yX11_outs := Or.inl ((jw_tt (jw_c3 _ (List.mem_of_getElem? (i := 221) rfl)) rfl))
set_option maxRecDepth 100000 in
theorem mt_X11_pairOf : jw_mt yX11_pairOf cX11_pairOf 4 (some .int) 2 := ⟨((jw_tt (jw_c7 _ (List.mem_of_getElem? (i := 91) rfl)) rfl)), ((jw_tt (jw_c1 _ (List.mem_of_getElem? (i := 1) rfl)) rfl)), ⟨by decide, by decide, by decide +kernel⟩, by decide⟩
set_option maxRecDepth 100000 in
theorem in_X11_pairOf : Cond.instanceMethod yX11_pairOf ∈ jw_T := (jw_tt (jw_c7 _ (List.mem_of_getElem? (i := 89) rfl)) rfl)
set_option maxRecDepth 100000 in
theorem se_X11_pairOf : Cond.selects yX11_pairOf.cls yX11_pairOf yX11_pairOf ∈ jw_T := (jw_tt (jw_c7 _ (List.mem_of_getElem? (i := 90) rfl)) rfl)
set_option maxRecDepth 100000 in
theorem lk_L_95 : jw_lk RL 95 yX11_pairOf := Or.inl ((jw_tt (jw_c7 _ (List.mem_of_getElem? (i := 88) rfl)) rfl))
set_option maxRecDepth 100000 in
theorem mt_X11_patternFault : jw_mt yX11_patternFault cX11_patternFault 1 (some .int) 0 := ⟨((jw_tt (jw_c3 _ (List.mem_of_getElem? (i := 188) rfl)) rfl)), ((jw_tt (jw_c1 _ (List.mem_of_getElem? (i := 1) rfl)) rfl)), ⟨by decide, by decide, by decide +kernel⟩, by decide⟩
set_option maxRecDepth 100000 in
theorem in_X11_patternFault : Cond.instanceMethod yX11_patternFault ∈ jw_T := (jw_tt (jw_c3 _ (List.mem_of_getElem? (i := 186) rfl)) rfl)
set_option maxRecDepth 100000 in
theorem se_X11_patternFault : Cond.selects yX11_patternFault.cls yX11_patternFault yX11_patternFault ∈ jw_T := (jw_tt (jw_c3 _ (List.mem_of_getElem? (i := 187) rfl)) rfl)
set_option maxRecDepth 100000 in
theorem lk_L_119 : jw_lk RL 119 yX11_patternFault := Or.inl ((jw_tt (jw_c3 _ (List.mem_of_getElem? (i := 185) rfl)) rfl))
set_option maxRecDepth 100000 in
theorem mt_X11_play : jw_mt yX11_play cX11_play 3 (some .int) 1 := ⟨((jw_tt (jw_c5 _ (List.mem_of_getElem? (i := 237) rfl)) rfl)), ((jw_tt (jw_c1 _ (List.mem_of_getElem? (i := 1) rfl)) rfl)), ⟨by decide, by decide, by decide +kernel⟩, by decide⟩
set_option maxRecDepth 100000 in
theorem in_X11_play : Cond.instanceMethod yX11_play ∈ jw_T := (jw_tt (jw_c5 _ (List.mem_of_getElem? (i := 235) rfl)) rfl)
set_option maxRecDepth 100000 in
theorem se_X11_play : Cond.selects yX11_play.cls yX11_play yX11_play ∈ jw_T := (jw_tt (jw_c5 _ (List.mem_of_getElem? (i := 236) rfl)) rfl)
set_option maxRecDepth 100000 in
theorem lk_L_26 : jw_lk RL 26 yX11_play := Or.inl ((jw_tt (jw_c5 _ (List.mem_of_getElem? (i := 234) rfl)) rfl))
set_option maxRecDepth 100000 in
theorem mt_X11_present : jw_mt yX11_present cX11_present 1 (some .int) 0 := ⟨((jw_tt (jw_c3 _ (List.mem_of_getElem? (i := 216) rfl)) rfl)), ((jw_tt (jw_c1 _ (List.mem_of_getElem? (i := 1) rfl)) rfl)), ⟨by decide, by decide, by decide +kernel⟩, by decide⟩
set_option maxRecDepth 100000 in
theorem in_X11_present : Cond.instanceMethod yX11_present ∈ jw_T := (jw_tt (jw_c3 _ (List.mem_of_getElem? (i := 214) rfl)) rfl)
set_option maxRecDepth 100000 in
theorem se_X11_present : Cond.selects yX11_present.cls yX11_present yX11_present ∈ jw_T := (jw_tt (jw_c3 _ (List.mem_of_getElem? (i := 215) rfl)) rfl)
set_option maxRecDepth 100000 in
theorem lk_L_174 : jw_lk RL 174 yX11_present := Or.inl ((jw_tt (jw_c3 _ (List.mem_of_getElem? (i := 213) rfl)) rfl))
set_option maxRecDepth 100000 in
theorem mt_X11_reason : jw_mt yX11_reason cX11_reason 1 (some .int) 0 := ⟨((jw_tt (jw_c3 _ (List.mem_of_getElem? (i := 196) rfl)) rfl)), ((jw_tt (jw_c1 _ (List.mem_of_getElem? (i := 1) rfl)) rfl)), ⟨by decide, by decide, by decide +kernel⟩, by decide⟩
set_option maxRecDepth 100000 in
theorem in_X11_reason : Cond.instanceMethod yX11_reason ∈ jw_T := (jw_tt (jw_c3 _ (List.mem_of_getElem? (i := 194) rfl)) rfl)
set_option maxRecDepth 100000 in
theorem se_X11_reason : Cond.selects yX11_reason.cls yX11_reason yX11_reason ∈ jw_T := (jw_tt (jw_c3 _ (List.mem_of_getElem? (i := 195) rfl)) rfl)
set_option maxRecDepth 100000 in
theorem lk_L_136 : jw_lk RL 136 yX11_reason := Or.inl ((jw_tt (jw_c3 _ (List.mem_of_getElem? (i := 193) rfl)) rfl))
set_option maxRecDepth 100000 in
theorem mt_X11_run : jw_mt yX11_run cX11_run 2 (some .int) 0 := ⟨((jw_tt (jw_c4 _ (List.mem_of_getElem? (i := 124) rfl)) rfl)), ((jw_tt (jw_c1 _ (List.mem_of_getElem? (i := 1) rfl)) rfl)), ⟨by decide, by decide, by decide +kernel⟩, by decide⟩
set_option maxRecDepth 100000 in
theorem in_X11_run : Cond.instanceMethod yX11_run ∈ jw_T := (jw_tt (jw_c4 _ (List.mem_of_getElem? (i := 122) rfl)) rfl)
set_option maxRecDepth 100000 in
theorem se_X11_run : Cond.selects yX11_run.cls yX11_run yX11_run ∈ jw_T := (jw_tt (jw_c4 _ (List.mem_of_getElem? (i := 123) rfl)) rfl)
set_option maxRecDepth 100000 in
theorem lk_L_17 : jw_lk RL 17 yX11_run := Or.inl ((jw_tt (jw_c4 _ (List.mem_of_getElem? (i := 121) rfl)) rfl))
set_option maxRecDepth 100000 in
theorem mt_X11_sample : jw_mt yX11_sample cX11_sample 3 (some .int) 2 := ⟨((jw_tt (jw_c6 _ (List.mem_of_getElem? (i := 210) rfl)) rfl)), ((jw_tt (jw_c1 _ (List.mem_of_getElem? (i := 1) rfl)) rfl)), ⟨by decide, by decide, by decide +kernel⟩, by decide⟩
set_option maxRecDepth 100000 in
theorem in_X11_sample : Cond.instanceMethod yX11_sample ∈ jw_T := (jw_tt (jw_c6 _ (List.mem_of_getElem? (i := 208) rfl)) rfl)
set_option maxRecDepth 100000 in
theorem se_X11_sample : Cond.selects yX11_sample.cls yX11_sample yX11_sample ∈ jw_T := (jw_tt (jw_c6 _ (List.mem_of_getElem? (i := 209) rfl)) rfl)
set_option maxRecDepth 100000 in
theorem lk_L_57 : jw_lk RL 57 yX11_sample := Or.inl ((jw_tt (jw_c6 _ (List.mem_of_getElem? (i := 207) rfl)) rfl))
set_option maxRecDepth 100000 in
theorem mt_X11_scriptAt : jw_mt yX11_scriptAt cX11_scriptAt 3 (some .int) 2 := ⟨((jw_tt (jw_c6 _ (List.mem_of_getElem? (i := 144) rfl)) rfl)), ((jw_tt (jw_c1 _ (List.mem_of_getElem? (i := 1) rfl)) rfl)), ⟨by decide, by decide, by decide +kernel⟩, by decide⟩
set_option maxRecDepth 100000 in
theorem in_X11_scriptAt : Cond.instanceMethod yX11_scriptAt ∈ jw_T := (jw_tt (jw_c6 _ (List.mem_of_getElem? (i := 142) rfl)) rfl)
set_option maxRecDepth 100000 in
theorem se_X11_scriptAt : Cond.selects yX11_scriptAt.cls yX11_scriptAt yX11_scriptAt ∈ jw_T := (jw_tt (jw_c6 _ (List.mem_of_getElem? (i := 143) rfl)) rfl)
set_option maxRecDepth 100000 in
theorem lk_L_35 : jw_lk RL 35 yX11_scriptAt := Or.inl ((jw_tt (jw_c6 _ (List.mem_of_getElem? (i := 141) rfl)) rfl))
set_option maxRecDepth 100000 in
theorem mt_X11_scriptLength : jw_mt yX11_scriptLength cX11_scriptLength 2 (some .int) 1 := ⟨((jw_tt (jw_c6 _ (List.mem_of_getElem? (i := 137) rfl)) rfl)), ((jw_tt (jw_c1 _ (List.mem_of_getElem? (i := 1) rfl)) rfl)), ⟨by decide, by decide, by decide +kernel⟩, by decide⟩
set_option maxRecDepth 100000 in
theorem in_X11_scriptLength : Cond.instanceMethod yX11_scriptLength ∈ jw_T := (jw_tt (jw_c6 _ (List.mem_of_getElem? (i := 135) rfl)) rfl)
set_option maxRecDepth 100000 in
theorem se_X11_scriptLength : Cond.selects yX11_scriptLength.cls yX11_scriptLength yX11_scriptLength ∈ jw_T := (jw_tt (jw_c6 _ (List.mem_of_getElem? (i := 136) rfl)) rfl)
set_option maxRecDepth 100000 in
theorem lk_L_32 : jw_lk RL 32 yX11_scriptLength := Or.inl ((jw_tt (jw_c6 _ (List.mem_of_getElem? (i := 134) rfl)) rfl))
set_option maxRecDepth 100000 in
theorem mt_X11_stream : jw_mt yX11_stream cX11_stream 3 (some .int) 1 := ⟨((jw_tt (jw_c6 _ (List.mem_of_getElem? (i := 5) rfl)) rfl)), ((jw_tt (jw_c1 _ (List.mem_of_getElem? (i := 1) rfl)) rfl)), ⟨by decide, by decide, by decide +kernel⟩, by decide⟩
set_option maxRecDepth 100000 in
theorem in_X11_stream : Cond.instanceMethod yX11_stream ∈ jw_T := (jw_tt (jw_c6 _ (List.mem_of_getElem? (i := 3) rfl)) rfl)
set_option maxRecDepth 100000 in
theorem se_X11_stream : Cond.selects yX11_stream.cls yX11_stream yX11_stream ∈ jw_T := (jw_tt (jw_c6 _ (List.mem_of_getElem? (i := 4) rfl)) rfl)
set_option maxRecDepth 100000 in
theorem lk_L_29 : jw_lk RL 29 yX11_stream := Or.inl ((jw_tt (jw_c6 _ (List.mem_of_getElem? (i := 2) rfl)) rfl))
set_option maxRecDepth 100000 in
theorem mt_X11_type : jw_mt yX11_type cX11_type 2 (some .int) 1 := ⟨((jw_tt (jw_c4 _ (List.mem_of_getElem? (i := 34) rfl)) rfl)), ((jw_tt (jw_c1 _ (List.mem_of_getElem? (i := 1) rfl)) rfl)), ⟨by decide, by decide, by decide +kernel⟩, by decide⟩
set_option maxRecDepth 100000 in
theorem in_X11_type : Cond.instanceMethod yX11_type ∈ jw_T := (jw_tt (jw_c4 _ (List.mem_of_getElem? (i := 32) rfl)) rfl)
set_option maxRecDepth 100000 in
theorem se_X11_type : Cond.selects yX11_type.cls yX11_type yX11_type ∈ jw_T := (jw_tt (jw_c4 _ (List.mem_of_getElem? (i := 33) rfl)) rfl)
set_option maxRecDepth 100000 in
theorem lk_L_7 : jw_lk RL 7 yX11_type := Or.inl ((jw_tt (jw_c4 _ (List.mem_of_getElem? (i := 31) rfl)) rfl))
set_option maxRecDepth 100000 in
theorem mt_X11_undo : jw_mt yX11_undo cX11_undo 1 (some .int) 0 := ⟨((jw_tt (jw_c6 _ (List.mem_of_getElem? (i := 151) rfl)) rfl)), ((jw_tt (jw_c1 _ (List.mem_of_getElem? (i := 1) rfl)) rfl)), ⟨by decide, by decide, by decide +kernel⟩, by decide⟩
set_option maxRecDepth 100000 in
theorem in_X11_undo : Cond.instanceMethod yX11_undo ∈ jw_T := (jw_tt (jw_c6 _ (List.mem_of_getElem? (i := 149) rfl)) rfl)
set_option maxRecDepth 100000 in
theorem se_X11_undo : Cond.selects yX11_undo.cls yX11_undo yX11_undo ∈ jw_T := (jw_tt (jw_c6 _ (List.mem_of_getElem? (i := 150) rfl)) rfl)
set_option maxRecDepth 100000 in
theorem lk_L_39 : jw_lk RL 39 yX11_undo := Or.inl ((jw_tt (jw_c6 _ (List.mem_of_getElem? (i := 148) rfl)) rfl))
set_option maxRecDepth 100000 in
theorem mt_X11_undoRun : jw_mt yX11_undoRun cX11_undoRun 4 (some .int) 0 := ⟨((jw_tt (jw_c6 _ (List.mem_of_getElem? (i := 163) rfl)) rfl)), ((jw_tt (jw_c1 _ (List.mem_of_getElem? (i := 1) rfl)) rfl)), ⟨by decide, by decide, by decide +kernel⟩, by decide⟩
set_option maxRecDepth 100000 in
theorem in_X11_undoRun : Cond.instanceMethod yX11_undoRun ∈ jw_T := (jw_tt (jw_c6 _ (List.mem_of_getElem? (i := 161) rfl)) rfl)
set_option maxRecDepth 100000 in
theorem se_X11_undoRun : Cond.selects yX11_undoRun.cls yX11_undoRun yX11_undoRun ∈ jw_T := (jw_tt (jw_c6 _ (List.mem_of_getElem? (i := 162) rfl)) rfl)
set_option maxRecDepth 100000 in
theorem lk_L_42 : jw_lk RL 42 yX11_undoRun := Or.inl ((jw_tt (jw_c6 _ (List.mem_of_getElem? (i := 160) rfl)) rfl))
set_option maxRecDepth 100000 in
theorem mt_X11_wipe : jw_mt yX11_wipe cX11_wipe 2 (some .int) 0 := ⟨((jw_tt (jw_c3 _ (List.mem_of_getElem? (i := 70) rfl)) rfl)), ((jw_tt (jw_c1 _ (List.mem_of_getElem? (i := 1) rfl)) rfl)), ⟨by decide, by decide, by decide +kernel⟩, by decide⟩
set_option maxRecDepth 100000 in
theorem in_X11_wipe : Cond.instanceMethod yX11_wipe ∈ jw_T := (jw_tt (jw_c3 _ (List.mem_of_getElem? (i := 68) rfl)) rfl)
set_option maxRecDepth 100000 in
theorem se_X11_wipe : Cond.selects yX11_wipe.cls yX11_wipe yX11_wipe ∈ jw_T := (jw_tt (jw_c3 _ (List.mem_of_getElem? (i := 69) rfl)) rfl)
set_option maxRecDepth 100000 in
theorem lk_L_111 : jw_lk RL 111 yX11_wipe := Or.inl ((jw_tt (jw_c3 _ (List.mem_of_getElem? (i := 67) rfl)) rfl))
set_option maxRecDepth 100000 in
theorem mw_L_at : jw_mtW yL_at cL_at 5 (some .int) [(0, 10, 13, 24)] 4 := ⟨((jw_tt (jw_c6 _ (List.mem_of_getElem? (i := 180) rfl)) rfl)), ((jw_tt (jw_c1 _ (List.mem_of_getElem? (i := 0) rfl)) rfl)), ⟨by decide, by decide, by decide +kernel⟩, by decide⟩
set_option maxRecDepth 100000 in
theorem st_L_at : Cond.static yL_at ∈ jw_T := (jw_tt (jw_c6 _ (List.mem_of_getElem? (i := 179) rfl)) rfl)
set_option maxRecDepth 100000 in
theorem lw_L_164 : Cond.methodLink RL 164 yL_at ∈ jw_T := ((jw_tt (jw_c6 _ (List.mem_of_getElem? (i := 178) rfl)) rfl))
set_option maxRecDepth 100000 in
theorem mw_L_differ : jw_mtW yL_differ cL_differ 4 (some .int) [(0, 9, 12, 24)] 3 := ⟨((jw_tt (jw_c7 _ (List.mem_of_getElem? (i := 66) rfl)) rfl)), ((jw_tt (jw_c1 _ (List.mem_of_getElem? (i := 0) rfl)) rfl)), ⟨by decide, by decide, by decide +kernel⟩, by decide⟩
set_option maxRecDepth 100000 in
theorem st_L_differ : Cond.static yL_differ ∈ jw_T := (jw_tt (jw_c7 _ (List.mem_of_getElem? (i := 65) rfl)) rfl)
set_option maxRecDepth 100000 in
theorem lw_L_228 : Cond.methodLink RL 228 yL_differ ∈ jw_T := ((jw_tt (jw_c7 _ (List.mem_of_getElem? (i := 64) rfl)) rfl))
set_option maxRecDepth 100000 in
theorem mw_L_fileAt : jw_mtW yL_fileAt cL_fileAt 6 (some .int) [(0, 12, 15, 24)] 5 := ⟨((jw_tt (jw_c7 _ (List.mem_of_getElem? (i := 35) rfl)) rfl)), ((jw_tt (jw_c1 _ (List.mem_of_getElem? (i := 0) rfl)) rfl)), ⟨by decide, by decide, by decide +kernel⟩, by decide⟩
set_option maxRecDepth 100000 in
theorem st_L_fileAt : Cond.static yL_fileAt ∈ jw_T := (jw_tt (jw_c7 _ (List.mem_of_getElem? (i := 34) rfl)) rfl)
set_option maxRecDepth 100000 in
theorem lw_L_214 : Cond.methodLink RL 214 yL_fileAt ∈ jw_T := ((jw_tt (jw_c7 _ (List.mem_of_getElem? (i := 33) rfl)) rfl))
set_option maxRecDepth 100000 in
theorem mw_L_fileLength : jw_mtW yL_fileLength cL_fileLength 5 (some .int) [(0, 10, 13, 24)] 4 := ⟨((jw_tt (jw_c7 _ (List.mem_of_getElem? (i := 27) rfl)) rfl)), ((jw_tt (jw_c1 _ (List.mem_of_getElem? (i := 0) rfl)) rfl)), ⟨by decide, by decide, by decide +kernel⟩, by decide⟩
set_option maxRecDepth 100000 in
theorem st_L_fileLength : Cond.static yL_fileLength ∈ jw_T := (jw_tt (jw_c7 _ (List.mem_of_getElem? (i := 26) rfl)) rfl)
set_option maxRecDepth 100000 in
theorem lw_L_211 : Cond.methodLink RL 211 yL_fileLength ∈ jw_T := ((jw_tt (jw_c7 _ (List.mem_of_getElem? (i := 25) rfl)) rfl))
set_option maxRecDepth 100000 in
theorem mw_L_fileRows : jw_mtW yL_fileRows cL_fileRows 4 (some .int) [(0, 9, 12, 24)] 3 := ⟨((jw_tt (jw_c7 _ (List.mem_of_getElem? (i := 18) rfl)) rfl)), ((jw_tt (jw_c1 _ (List.mem_of_getElem? (i := 0) rfl)) rfl)), ⟨by decide, by decide, by decide +kernel⟩, by decide⟩
set_option maxRecDepth 100000 in
theorem st_L_fileRows : Cond.static yL_fileRows ∈ jw_T := (jw_tt (jw_c7 _ (List.mem_of_getElem? (i := 17) rfl)) rfl)
set_option maxRecDepth 100000 in
theorem lw_L_208 : Cond.methodLink RL 208 yL_fileRows ∈ jw_T := ((jw_tt (jw_c7 _ (List.mem_of_getElem? (i := 16) rfl)) rfl))
set_option maxRecDepth 100000 in
theorem mw_L_find : jw_mtW yL_find cL_find 4 (some .int) [(0, 9, 12, 15)] 3 := ⟨((jw_tt (jw_c7 _ (List.mem_of_getElem? (i := 43) rfl)) rfl)), ((jw_tt (jw_c1 _ (List.mem_of_getElem? (i := 0) rfl)) rfl)), ⟨by decide, by decide, by decide +kernel⟩, by decide⟩
set_option maxRecDepth 100000 in
theorem st_L_find : Cond.static yL_find ∈ jw_T := (jw_tt (jw_c7 _ (List.mem_of_getElem? (i := 42) rfl)) rfl)
set_option maxRecDepth 100000 in
theorem lw_L_218 : Cond.methodLink RL 218 yL_find ∈ jw_T := ((jw_tt (jw_c7 _ (List.mem_of_getElem? (i := 41) rfl)) rfl))
set_option maxRecDepth 100000 in
theorem mw_L_findEnd : jw_mtW yL_findEnd cL_findEnd 4 (some .int) [(0, 9, 12, 24), (0, 9, 15, 15)] 3 := ⟨((jw_tt (jw_c7 _ (List.mem_of_getElem? (i := 59) rfl)) rfl)), ((jw_tt (jw_c1 _ (List.mem_of_getElem? (i := 0) rfl)) rfl)), ⟨by decide, by decide, by decide +kernel⟩, by decide⟩
set_option maxRecDepth 100000 in
theorem st_L_findEnd : Cond.static yL_findEnd ∈ jw_T := (jw_tt (jw_c7 _ (List.mem_of_getElem? (i := 58) rfl)) rfl)
set_option maxRecDepth 100000 in
theorem lw_L_225 : Cond.methodLink RL 225 yL_findEnd ∈ jw_T := ((jw_tt (jw_c7 _ (List.mem_of_getElem? (i := 57) rfl)) rfl))
set_option maxRecDepth 100000 in
theorem mw_L_findStart : jw_mtW yL_findStart cL_findStart 4 (some .int) [(0, 9, 12, 24), (0, 9, 15, 15)] 3 := ⟨((jw_tt (jw_c7 _ (List.mem_of_getElem? (i := 51) rfl)) rfl)), ((jw_tt (jw_c1 _ (List.mem_of_getElem? (i := 0) rfl)) rfl)), ⟨by decide, by decide, by decide +kernel⟩, by decide⟩
set_option maxRecDepth 100000 in
theorem st_L_findStart : Cond.static yL_findStart ∈ jw_T := (jw_tt (jw_c7 _ (List.mem_of_getElem? (i := 50) rfl)) rfl)
set_option maxRecDepth 100000 in
theorem lw_L_222 : Cond.methodLink RL 222 yL_findStart ∈ jw_T := ((jw_tt (jw_c7 _ (List.mem_of_getElem? (i := 49) rfl)) rfl))
set_option maxRecDepth 100000 in
theorem mw_L_heldAt : jw_mtW yL_heldAt cL_heldAt 5 (some .int) [(0, 10, 13, 24)] 4 := ⟨((jw_tt (jw_c6 _ (List.mem_of_getElem? (i := 235) rfl)) rfl)), ((jw_tt (jw_c1 _ (List.mem_of_getElem? (i := 0) rfl)) rfl)), ⟨by decide, by decide, by decide +kernel⟩, by decide⟩
set_option maxRecDepth 100000 in
theorem st_L_heldAt : Cond.static yL_heldAt ∈ jw_T := (jw_tt (jw_c6 _ (List.mem_of_getElem? (i := 234) rfl)) rfl)
set_option maxRecDepth 100000 in
theorem lw_L_191 : Cond.methodLink RL 191 yL_heldAt ∈ jw_T := ((jw_tt (jw_c6 _ (List.mem_of_getElem? (i := 233) rfl)) rfl))
set_option maxRecDepth 100000 in
theorem mw_L_heldLength : jw_mtW yL_heldLength cL_heldLength 4 (some .int) [(0, 9, 12, 24)] 3 := ⟨((jw_tt (jw_c6 _ (List.mem_of_getElem? (i := 227) rfl)) rfl)), ((jw_tt (jw_c1 _ (List.mem_of_getElem? (i := 0) rfl)) rfl)), ⟨by decide, by decide, by decide +kernel⟩, by decide⟩
set_option maxRecDepth 100000 in
theorem st_L_heldLength : Cond.static yL_heldLength ∈ jw_T := (jw_tt (jw_c6 _ (List.mem_of_getElem? (i := 226) rfl)) rfl)
set_option maxRecDepth 100000 in
theorem lw_L_188 : Cond.methodLink RL 188 yL_heldLength ∈ jw_T := ((jw_tt (jw_c6 _ (List.mem_of_getElem? (i := 225) rfl)) rfl))
set_option maxRecDepth 100000 in
theorem mw_L_id : jw_mtW yL_id cL_id 4 (some .int) [(0, 9, 12, 24)] 3 := ⟨((jw_tt (jw_c6 _ (List.mem_of_getElem? (i := 189) rfl)) rfl)), ((jw_tt (jw_c1 _ (List.mem_of_getElem? (i := 0) rfl)) rfl)), ⟨by decide, by decide, by decide +kernel⟩, by decide⟩
set_option maxRecDepth 100000 in
theorem st_L_id : Cond.static yL_id ∈ jw_T := (jw_tt (jw_c6 _ (List.mem_of_getElem? (i := 188) rfl)) rfl)
set_option maxRecDepth 100000 in
theorem lw_L_167 : Cond.methodLink RL 167 yL_id ∈ jw_T := ((jw_tt (jw_c6 _ (List.mem_of_getElem? (i := 187) rfl)) rfl))
set_option maxRecDepth 100000 in
theorem mw_L_keep : jw_mtW yL_keep cL_keep 4 (some .int) [(0, 9, 12, 24), (0, 9, 15, 15)] 3 := ⟨((jw_tt (jw_c5 _ (List.mem_of_getElem? (i := 205) rfl)) rfl)), ((jw_tt (jw_c1 _ (List.mem_of_getElem? (i := 0) rfl)) rfl)), ⟨by decide, by decide, by decide +kernel⟩, by decide⟩
set_option maxRecDepth 100000 in
theorem st_L_keep : Cond.static yL_keep ∈ jw_T := (jw_tt (jw_c5 _ (List.mem_of_getElem? (i := 204) rfl)) rfl)
set_option maxRecDepth 100000 in
theorem lw_L_127 : Cond.methodLink RL 127 yL_keep ∈ jw_T := ((jw_tt (jw_c5 _ (List.mem_of_getElem? (i := 203) rfl)) rfl))
set_option maxRecDepth 100000 in
theorem mw_L_length : jw_mtW yL_length cL_length 4 (some .int) [(0, 9, 12, 24)] 3 := ⟨((jw_tt (jw_c6 _ (List.mem_of_getElem? (i := 170) rfl)) rfl)), ((jw_tt (jw_c1 _ (List.mem_of_getElem? (i := 0) rfl)) rfl)), ⟨by decide, by decide, by decide +kernel⟩, by decide⟩
set_option maxRecDepth 100000 in
theorem st_L_length : Cond.static yL_length ∈ jw_T := (jw_tt (jw_c6 _ (List.mem_of_getElem? (i := 169) rfl)) rfl)
set_option maxRecDepth 100000 in
theorem lw_L_161 : Cond.methodLink RL 161 yL_length ∈ jw_T := ((jw_tt (jw_c6 _ (List.mem_of_getElem? (i := 168) rfl)) rfl))
set_option maxRecDepth 100000 in
theorem mw_L_mark : jw_mtW yL_mark cL_mark 4 (some .int) [(0, 9, 12, 24)] 3 := ⟨((jw_tt (jw_c6 _ (List.mem_of_getElem? (i := 197) rfl)) rfl)), ((jw_tt (jw_c1 _ (List.mem_of_getElem? (i := 0) rfl)) rfl)), ⟨by decide, by decide, by decide +kernel⟩, by decide⟩
set_option maxRecDepth 100000 in
theorem st_L_mark : Cond.static yL_mark ∈ jw_T := (jw_tt (jw_c6 _ (List.mem_of_getElem? (i := 196) rfl)) rfl)
set_option maxRecDepth 100000 in
theorem lw_L_178 : Cond.methodLink RL 178 yL_mark ∈ jw_T := ((jw_tt (jw_c6 _ (List.mem_of_getElem? (i := 195) rfl)) rfl))
set_option maxRecDepth 100000 in
theorem mw_L_outAt : jw_mtW yL_outAt cL_outAt 5 (some .int) [(0, 10, 13, 24)] 4 := ⟨((jw_tt (jw_c7 _ (List.mem_of_getElem? (i := 11) rfl)) rfl)), ((jw_tt (jw_c1 _ (List.mem_of_getElem? (i := 0) rfl)) rfl)), ⟨by decide, by decide, by decide +kernel⟩, by decide⟩
set_option maxRecDepth 100000 in
theorem st_L_outAt : Cond.static yL_outAt ∈ jw_T := (jw_tt (jw_c7 _ (List.mem_of_getElem? (i := 10) rfl)) rfl)
set_option maxRecDepth 100000 in
theorem lw_L_201 : Cond.methodLink RL 201 yL_outAt ∈ jw_T := ((jw_tt (jw_c7 _ (List.mem_of_getElem? (i := 9) rfl)) rfl))
set_option maxRecDepth 100000 in
theorem mw_L_outLength : jw_mtW yL_outLength cL_outLength 4 (some .int) [(0, 9, 12, 24)] 3 := ⟨((jw_tt (jw_c7 _ (List.mem_of_getElem? (i := 3) rfl)) rfl)), ((jw_tt (jw_c1 _ (List.mem_of_getElem? (i := 0) rfl)) rfl)), ⟨by decide, by decide, by decide +kernel⟩, by decide⟩
set_option maxRecDepth 100000 in
theorem st_L_outLength : Cond.static yL_outLength ∈ jw_T := (jw_tt (jw_c7 _ (List.mem_of_getElem? (i := 2) rfl)) rfl)
set_option maxRecDepth 100000 in
theorem lw_L_198 : Cond.methodLink RL 198 yL_outLength ∈ jw_T := ((jw_tt (jw_c7 _ (List.mem_of_getElem? (i := 1) rfl)) rfl))
set_option maxRecDepth 100000 in
theorem mw_L_pairOf : jw_mtW yL_pairOf cL_pairOf 5 (some .int) [(0, 10, 13, 24)] 4 := ⟨((jw_tt (jw_c7 _ (List.mem_of_getElem? (i := 87) rfl)) rfl)), ((jw_tt (jw_c1 _ (List.mem_of_getElem? (i := 0) rfl)) rfl)), ⟨by decide, by decide, by decide +kernel⟩, by decide⟩
set_option maxRecDepth 100000 in
theorem st_L_pairOf : Cond.static yL_pairOf ∈ jw_T := (jw_tt (jw_c7 _ (List.mem_of_getElem? (i := 86) rfl)) rfl)
set_option maxRecDepth 100000 in
theorem lw_L_231 : Cond.methodLink RL 231 yL_pairOf ∈ jw_T := ((jw_tt (jw_c7 _ (List.mem_of_getElem? (i := 85) rfl)) rfl))
set_option maxRecDepth 100000 in
theorem mw_L_play : jw_mtW yL_play cL_play 4 (some .int) [(0, 9, 12, 24), (0, 9, 15, 15)] 3 := ⟨((jw_tt (jw_c5 _ (List.mem_of_getElem? (i := 233) rfl)) rfl)), ((jw_tt (jw_c1 _ (List.mem_of_getElem? (i := 0) rfl)) rfl)), ⟨by decide, by decide, by decide +kernel⟩, by decide⟩
set_option maxRecDepth 100000 in
theorem st_L_play : Cond.static yL_play ∈ jw_T := (jw_tt (jw_c5 _ (List.mem_of_getElem? (i := 232) rfl)) rfl)
set_option maxRecDepth 100000 in
theorem lw_L_130 : Cond.methodLink RL 130 yL_play ∈ jw_T := ((jw_tt (jw_c5 _ (List.mem_of_getElem? (i := 231) rfl)) rfl))
set_option maxRecDepth 100000 in
theorem mw_L_run : jw_mtW yL_run cL_run 3 (some .int) [(0, 8, 11, 15)] 2 := ⟨((jw_tt (jw_c4 _ (List.mem_of_getElem? (i := 120) rfl)) rfl)), ((jw_tt (jw_c1 _ (List.mem_of_getElem? (i := 0) rfl)) rfl)), ⟨by decide, by decide, by decide +kernel⟩, by decide⟩
set_option maxRecDepth 100000 in
theorem st_L_run : Cond.static yL_run ∈ jw_T := (jw_tt (jw_c4 _ (List.mem_of_getElem? (i := 119) rfl)) rfl)
set_option maxRecDepth 100000 in
theorem lw_L_123 : Cond.methodLink RL 123 yL_run ∈ jw_T := ((jw_tt (jw_c4 _ (List.mem_of_getElem? (i := 118) rfl)) rfl))
set_option maxRecDepth 100000 in
theorem mw_L_sample : jw_mtW yL_sample cL_sample 5 (some .int) [(0, 10, 13, 13), (0, 10, 17, 15)] 4 := ⟨((jw_tt (jw_c6 _ (List.mem_of_getElem? (i := 206) rfl)) rfl)), ((jw_tt (jw_c1 _ (List.mem_of_getElem? (i := 0) rfl)) rfl)), ⟨by decide, by decide, by decide +kernel⟩, by decide⟩
set_option maxRecDepth 100000 in
theorem st_L_sample : Cond.static yL_sample ∈ jw_T := (jw_tt (jw_c6 _ (List.mem_of_getElem? (i := 205) rfl)) rfl)
set_option maxRecDepth 100000 in
theorem lw_L_181 : Cond.methodLink RL 181 yL_sample ∈ jw_T := ((jw_tt (jw_c6 _ (List.mem_of_getElem? (i := 204) rfl)) rfl))
set_option maxRecDepth 100000 in
theorem mw_L_scriptAt : jw_mtW yL_scriptAt cL_scriptAt 5 (some .int) [(0, 10, 13, 24)] 4 := ⟨((jw_tt (jw_c6 _ (List.mem_of_getElem? (i := 140) rfl)) rfl)), ((jw_tt (jw_c1 _ (List.mem_of_getElem? (i := 0) rfl)) rfl)), ⟨by decide, by decide, by decide +kernel⟩, by decide⟩
set_option maxRecDepth 100000 in
theorem st_L_scriptAt : Cond.static yL_scriptAt ∈ jw_T := (jw_tt (jw_c6 _ (List.mem_of_getElem? (i := 139) rfl)) rfl)
set_option maxRecDepth 100000 in
theorem lw_L_143 : Cond.methodLink RL 143 yL_scriptAt ∈ jw_T := ((jw_tt (jw_c6 _ (List.mem_of_getElem? (i := 138) rfl)) rfl))
set_option maxRecDepth 100000 in
theorem mw_L_scriptLength : jw_mtW yL_scriptLength cL_scriptLength 4 (some .int) [(0, 9, 12, 24)] 3 := ⟨((jw_tt (jw_c6 _ (List.mem_of_getElem? (i := 133) rfl)) rfl)), ((jw_tt (jw_c1 _ (List.mem_of_getElem? (i := 0) rfl)) rfl)), ⟨by decide, by decide, by decide +kernel⟩, by decide⟩
set_option maxRecDepth 100000 in
theorem st_L_scriptLength : Cond.static yL_scriptLength ∈ jw_T := (jw_tt (jw_c6 _ (List.mem_of_getElem? (i := 132) rfl)) rfl)
set_option maxRecDepth 100000 in
theorem lw_L_140 : Cond.methodLink RL 140 yL_scriptLength ∈ jw_T := ((jw_tt (jw_c6 _ (List.mem_of_getElem? (i := 131) rfl)) rfl))
set_option maxRecDepth 100000 in
theorem mw_L_stream : jw_mtW yL_stream cL_stream 4 (some .int) [(0, 9, 12, 24), (0, 9, 15, 15)] 3 := ⟨((jw_tt (jw_c6 _ (List.mem_of_getElem? (i := 1) rfl)) rfl)), ((jw_tt (jw_c1 _ (List.mem_of_getElem? (i := 0) rfl)) rfl)), ⟨by decide, by decide, by decide +kernel⟩, by decide⟩
set_option maxRecDepth 100000 in
theorem st_L_stream : Cond.static yL_stream ∈ jw_T := (jw_tt (jw_c6 _ (List.mem_of_getElem? (i := 0) rfl)) rfl)
set_option maxRecDepth 100000 in
theorem lw_L_133 : Cond.methodLink RL 133 yL_stream ∈ jw_T := ((jw_tt (jw_c5 _ (List.mem_of_getElem? (i := 239) rfl)) rfl))
set_option maxRecDepth 100000 in
theorem mw_L_type : jw_mtW yL_type cL_type 4 (some .int) [(0, 9, 12, 13), (0, 9, 15, 15)] 3 := ⟨((jw_tt (jw_c4 _ (List.mem_of_getElem? (i := 28) rfl)) rfl)), ((jw_tt (jw_c1 _ (List.mem_of_getElem? (i := 0) rfl)) rfl)), ⟨by decide, by decide, by decide +kernel⟩, by decide⟩
set_option maxRecDepth 100000 in
theorem st_L_type : Cond.static yL_type ∈ jw_T := (jw_tt (jw_c4 _ (List.mem_of_getElem? (i := 27) rfl)) rfl)
set_option maxRecDepth 100000 in
theorem lw_L_102 : Cond.methodLink RL 102 yL_type ∈ jw_T := ((jw_tt (jw_c4 _ (List.mem_of_getElem? (i := 26) rfl)) rfl))
set_option maxRecDepth 100000 in
theorem mw_L_undo : jw_mtW yL_undo cL_undo 3 (some .int) [(0, 8, 11, 15)] 2 := ⟨((jw_tt (jw_c6 _ (List.mem_of_getElem? (i := 147) rfl)) rfl)), ((jw_tt (jw_c1 _ (List.mem_of_getElem? (i := 0) rfl)) rfl)), ⟨by decide, by decide, by decide +kernel⟩, by decide⟩
set_option maxRecDepth 100000 in
theorem st_L_undo : Cond.static yL_undo ∈ jw_T := (jw_tt (jw_c6 _ (List.mem_of_getElem? (i := 146) rfl)) rfl)
set_option maxRecDepth 100000 in
theorem lw_L_147 : Cond.methodLink RL 147 yL_undo ∈ jw_T := ((jw_tt (jw_c6 _ (List.mem_of_getElem? (i := 145) rfl)) rfl))
set_option maxRecDepth 100000 in
theorem mw_L_undoRun : jw_mtW yL_undoRun cL_undoRun 3 (some .int) [(0, 8, 11, 15)] 2 := ⟨((jw_tt (jw_c6 _ (List.mem_of_getElem? (i := 159) rfl)) rfl)), ((jw_tt (jw_c1 _ (List.mem_of_getElem? (i := 0) rfl)) rfl)), ⟨by decide, by decide, by decide +kernel⟩, by decide⟩
set_option maxRecDepth 100000 in
theorem st_L_undoRun : Cond.static yL_undoRun ∈ jw_T := (jw_tt (jw_c6 _ (List.mem_of_getElem? (i := 158) rfl)) rfl)
set_option maxRecDepth 100000 in
theorem lw_L_150 : Cond.methodLink RL 150 yL_undoRun ∈ jw_T := ((jw_tt (jw_c6 _ (List.mem_of_getElem? (i := 157) rfl)) rfl))
set_option maxRecDepth 100000 in
theorem mt_X12_init : jw_mt yX12_init cX12_init 2 none 0 := ⟨((jw_tt (jw_c7 _ (List.mem_of_getElem? (i := 97) rfl)) rfl)), ((jw_tt (jw_c1 _ (List.mem_of_getElem? (i := 14) rfl)) rfl)), ⟨by decide, by decide, by decide +kernel⟩, by decide⟩
set_option maxRecDepth 100000 in
theorem in_X12_init : Cond.instanceMethod yX12_init ∈ jw_T := (jw_tt (jw_c7 _ (List.mem_of_getElem? (i := 96) rfl)) rfl)
set_option maxRecDepth 100000 in
theorem lk_L_101 : jw_lk RL 101 yX12_init := Or.inl ((jw_tt (jw_c7 _ (List.mem_of_getElem? (i := 95) rfl)) rfl))
set_option maxRecDepth 100000 in
theorem mt_X12_at : jw_mt yX12_at cX12_at 3 (some .int) 2 := ⟨((jw_tt (jw_c11 _ (List.mem_of_getElem? (i := 27) rfl)) rfl)), ((jw_tt (jw_c1 _ (List.mem_of_getElem? (i := 14) rfl)) rfl)), ⟨by decide, by decide, by decide +kernel⟩, by decide⟩
set_option maxRecDepth 100000 in
theorem in_X12_at : Cond.instanceMethod yX12_at ∈ jw_T := (jw_tt (jw_c11 _ (List.mem_of_getElem? (i := 25) rfl)) rfl)
set_option maxRecDepth 100000 in
theorem se_X12_at : Cond.selects yX12_at.cls yX12_at yX12_at ∈ jw_T := (jw_tt (jw_c11 _ (List.mem_of_getElem? (i := 26) rfl)) rfl)
set_option maxRecDepth 100000 in
theorem lk_L_166 : jw_lk RL 166 yX12_at := Or.inl ((jw_tt (jw_c11 _ (List.mem_of_getElem? (i := 24) rfl)) rfl))
set_option maxRecDepth 100000 in
theorem mt_X12_clearOut : jw_mt yX12_clearOut cX12_clearOut 2 (some .int) 0 := ⟨((jw_tt (jw_c11 _ (List.mem_of_getElem? (i := 89) rfl)) rfl)), ((jw_tt (jw_c1 _ (List.mem_of_getElem? (i := 14) rfl)) rfl)), ⟨by decide, by decide, by decide +kernel⟩, by decide⟩
set_option maxRecDepth 100000 in
theorem in_X12_clearOut : Cond.instanceMethod yX12_clearOut ∈ jw_T := (jw_tt (jw_c11 _ (List.mem_of_getElem? (i := 87) rfl)) rfl)
set_option maxRecDepth 100000 in
theorem se_X12_clearOut : Cond.selects yX12_clearOut.cls yX12_clearOut yX12_clearOut ∈ jw_T := (jw_tt (jw_c11 _ (List.mem_of_getElem? (i := 88) rfl)) rfl)
set_option maxRecDepth 100000 in
theorem lk_L_207 : jw_lk RL 207 yX12_clearOut := Or.inl ((jw_tt (jw_c11 _ (List.mem_of_getElem? (i := 86) rfl)) rfl))
set_option maxRecDepth 100000 in
theorem mt_X12_deeds : jw_mt yX12_deeds cX12_deeds 1 (some .int) 0 := ⟨((jw_tt (jw_c11 _ (List.mem_of_getElem? (i := 11) rfl)) rfl)), ((jw_tt (jw_c1 _ (List.mem_of_getElem? (i := 14) rfl)) rfl)), ⟨by decide, by decide, by decide +kernel⟩, by decide⟩
set_option maxRecDepth 100000 in
theorem in_X12_deeds : Cond.instanceMethod yX12_deeds ∈ jw_T := (jw_tt (jw_c11 _ (List.mem_of_getElem? (i := 9) rfl)) rfl)
set_option maxRecDepth 100000 in
theorem se_X12_deeds : Cond.selects yX12_deeds.cls yX12_deeds yX12_deeds ∈ jw_T := (jw_tt (jw_c11 _ (List.mem_of_getElem? (i := 10) rfl)) rfl)
set_option maxRecDepth 100000 in
theorem lk_L_156 : jw_lk RL 156 yX12_deeds := Or.inl ((jw_tt (jw_c11 _ (List.mem_of_getElem? (i := 8) rfl)) rfl))
set_option maxRecDepth 100000 in
theorem mt_X12_differ : jw_mt yX12_differ cX12_differ 2 (some .int) 1 := ⟨((jw_tt (jw_c11 _ (List.mem_of_getElem? (i := 125) rfl)) rfl)), ((jw_tt (jw_c1 _ (List.mem_of_getElem? (i := 14) rfl)) rfl)), ⟨by decide, by decide, by decide +kernel⟩, by decide⟩
set_option maxRecDepth 100000 in
theorem in_X12_differ : Cond.instanceMethod yX12_differ ∈ jw_T := (jw_tt (jw_c11 _ (List.mem_of_getElem? (i := 123) rfl)) rfl)
set_option maxRecDepth 100000 in
theorem se_X12_differ : Cond.selects yX12_differ.cls yX12_differ yX12_differ ∈ jw_T := (jw_tt (jw_c11 _ (List.mem_of_getElem? (i := 124) rfl)) rfl)
set_option maxRecDepth 100000 in
theorem lk_L_230 : jw_lk RL 230 yX12_differ := Or.inl ((jw_tt (jw_c11 _ (List.mem_of_getElem? (i := 122) rfl)) rfl))
set_option maxRecDepth 100000 in
theorem mt_X12_fault : jw_mt yX12_fault cX12_fault 1 (some .int) 0 := ⟨((jw_tt (jw_c8 _ (List.mem_of_getElem? (i := 117) rfl)) rfl)), ((jw_tt (jw_c1 _ (List.mem_of_getElem? (i := 14) rfl)) rfl)), ⟨by decide, by decide, by decide +kernel⟩, by decide⟩
set_option maxRecDepth 100000 in
theorem in_X12_fault : Cond.instanceMethod yX12_fault ∈ jw_T := (jw_tt (jw_c8 _ (List.mem_of_getElem? (i := 115) rfl)) rfl)
set_option maxRecDepth 100000 in
theorem se_X12_fault : Cond.selects yX12_fault.cls yX12_fault yX12_fault ∈ jw_T := (jw_tt (jw_c8 _ (List.mem_of_getElem? (i := 116) rfl)) rfl)
set_option maxRecDepth 100000 in
theorem lk_L_118 : jw_lk RL 118 yX12_fault := Or.inl ((jw_tt (jw_c8 _ (List.mem_of_getElem? (i := 114) rfl)) rfl))
set_option maxRecDepth 100000 in
theorem mt_X12_fileAt : jw_mt yX12_fileAt cX12_fileAt 5 (some .int) 3 := ⟨((jw_tt (jw_c11 _ (List.mem_of_getElem? (i := 105) rfl)) rfl)), ((jw_tt (jw_c1 _ (List.mem_of_getElem? (i := 14) rfl)) rfl)), ⟨by decide, by decide, by decide +kernel⟩, by decide⟩
set_option maxRecDepth 100000 in
theorem in_X12_fileAt : Cond.instanceMethod yX12_fileAt ∈ jw_T := (jw_tt (jw_c11 _ (List.mem_of_getElem? (i := 103) rfl)) rfl)
set_option maxRecDepth 100000 in
theorem se_X12_fileAt : Cond.selects yX12_fileAt.cls yX12_fileAt yX12_fileAt ∈ jw_T := (jw_tt (jw_c11 _ (List.mem_of_getElem? (i := 104) rfl)) rfl)
set_option maxRecDepth 100000 in
theorem lk_L_217 : jw_lk RL 217 yX12_fileAt := Or.inl ((jw_tt (jw_c11 _ (List.mem_of_getElem? (i := 102) rfl)) rfl))
set_option maxRecDepth 100000 in
theorem mt_X12_fileLength : jw_mt yX12_fileLength cX12_fileLength 4 (some .int) 2 := ⟨((jw_tt (jw_c11 _ (List.mem_of_getElem? (i := 97) rfl)) rfl)), ((jw_tt (jw_c1 _ (List.mem_of_getElem? (i := 14) rfl)) rfl)), ⟨by decide, by decide, by decide +kernel⟩, by decide⟩
set_option maxRecDepth 100000 in
theorem in_X12_fileLength : Cond.instanceMethod yX12_fileLength ∈ jw_T := (jw_tt (jw_c11 _ (List.mem_of_getElem? (i := 95) rfl)) rfl)
set_option maxRecDepth 100000 in
theorem se_X12_fileLength : Cond.selects yX12_fileLength.cls yX12_fileLength yX12_fileLength ∈ jw_T := (jw_tt (jw_c11 _ (List.mem_of_getElem? (i := 96) rfl)) rfl)
set_option maxRecDepth 100000 in
theorem lk_L_213 : jw_lk RL 213 yX12_fileLength := Or.inl ((jw_tt (jw_c11 _ (List.mem_of_getElem? (i := 94) rfl)) rfl))
set_option maxRecDepth 100000 in
theorem mt_X12_fileRows : jw_mt yX12_fileRows cX12_fileRows 2 (some .int) 1 := ⟨((jw_tt (jw_c11 _ (List.mem_of_getElem? (i := 93) rfl)) rfl)), ((jw_tt (jw_c1 _ (List.mem_of_getElem? (i := 14) rfl)) rfl)), ⟨by decide, by decide, by decide +kernel⟩, by decide⟩
set_option maxRecDepth 100000 in
theorem in_X12_fileRows : Cond.instanceMethod yX12_fileRows ∈ jw_T := (jw_tt (jw_c11 _ (List.mem_of_getElem? (i := 91) rfl)) rfl)
set_option maxRecDepth 100000 in
theorem se_X12_fileRows : Cond.selects yX12_fileRows.cls yX12_fileRows yX12_fileRows ∈ jw_T := (jw_tt (jw_c11 _ (List.mem_of_getElem? (i := 92) rfl)) rfl)
set_option maxRecDepth 100000 in
theorem lk_L_210 : jw_lk RL 210 yX12_fileRows := Or.inl ((jw_tt (jw_c11 _ (List.mem_of_getElem? (i := 90) rfl)) rfl))
set_option maxRecDepth 100000 in
theorem mt_X12_find : jw_mt yX12_find cX12_find 3 (some .int) 1 := ⟨((jw_tt (jw_c11 _ (List.mem_of_getElem? (i := 109) rfl)) rfl)), ((jw_tt (jw_c1 _ (List.mem_of_getElem? (i := 14) rfl)) rfl)), ⟨by decide, by decide, by decide +kernel⟩, by decide⟩
set_option maxRecDepth 100000 in
theorem in_X12_find : Cond.instanceMethod yX12_find ∈ jw_T := (jw_tt (jw_c11 _ (List.mem_of_getElem? (i := 107) rfl)) rfl)
set_option maxRecDepth 100000 in
theorem se_X12_find : Cond.selects yX12_find.cls yX12_find yX12_find ∈ jw_T := (jw_tt (jw_c11 _ (List.mem_of_getElem? (i := 108) rfl)) rfl)
set_option maxRecDepth 100000 in
theorem lk_L_221 : jw_lk RL 221 yX12_find := Or.inl ((jw_tt (jw_c11 _ (List.mem_of_getElem? (i := 106) rfl)) rfl))
set_option maxRecDepth 100000 in
theorem mt_X12_findEnd : jw_mt yX12_findEnd cX12_findEnd 3 (some .int) 1 := ⟨((jw_tt (jw_c11 _ (List.mem_of_getElem? (i := 121) rfl)) rfl)), ((jw_tt (jw_c1 _ (List.mem_of_getElem? (i := 14) rfl)) rfl)), ⟨by decide, by decide, by decide +kernel⟩, by decide⟩
set_option maxRecDepth 100000 in
theorem in_X12_findEnd : Cond.instanceMethod yX12_findEnd ∈ jw_T := (jw_tt (jw_c11 _ (List.mem_of_getElem? (i := 119) rfl)) rfl)
set_option maxRecDepth 100000 in
theorem se_X12_findEnd : Cond.selects yX12_findEnd.cls yX12_findEnd yX12_findEnd ∈ jw_T := (jw_tt (jw_c11 _ (List.mem_of_getElem? (i := 120) rfl)) rfl)
set_option maxRecDepth 100000 in
theorem lk_L_227 : jw_lk RL 227 yX12_findEnd := Or.inl ((jw_tt (jw_c11 _ (List.mem_of_getElem? (i := 118) rfl)) rfl))
set_option maxRecDepth 100000 in
theorem mt_X12_findStart : jw_mt yX12_findStart cX12_findStart 3 (some .int) 1 := ⟨((jw_tt (jw_c11 _ (List.mem_of_getElem? (i := 113) rfl)) rfl)), ((jw_tt (jw_c1 _ (List.mem_of_getElem? (i := 14) rfl)) rfl)), ⟨by decide, by decide, by decide +kernel⟩, by decide⟩
set_option maxRecDepth 100000 in
theorem in_X12_findStart : Cond.instanceMethod yX12_findStart ∈ jw_T := (jw_tt (jw_c11 _ (List.mem_of_getElem? (i := 111) rfl)) rfl)
set_option maxRecDepth 100000 in
theorem se_X12_findStart : Cond.selects yX12_findStart.cls yX12_findStart yX12_findStart ∈ jw_T := (jw_tt (jw_c11 _ (List.mem_of_getElem? (i := 112) rfl)) rfl)
set_option maxRecDepth 100000 in
theorem lk_L_224 : jw_lk RL 224 yX12_findStart := Or.inl ((jw_tt (jw_c11 _ (List.mem_of_getElem? (i := 110) rfl)) rfl))
set_option maxRecDepth 100000 in
theorem mt_X12_held : jw_mt yX12_held cX12_held 1 (some .int) 0 := ⟨((jw_tt (jw_c11 _ (List.mem_of_getElem? (i := 61) rfl)) rfl)), ((jw_tt (jw_c1 _ (List.mem_of_getElem? (i := 14) rfl)) rfl)), ⟨by decide, by decide, by decide +kernel⟩, by decide⟩
set_option maxRecDepth 100000 in
theorem in_X12_held : Cond.instanceMethod yX12_held ∈ jw_T := (jw_tt (jw_c11 _ (List.mem_of_getElem? (i := 59) rfl)) rfl)
set_option maxRecDepth 100000 in
theorem se_X12_held : Cond.selects yX12_held.cls yX12_held yX12_held ∈ jw_T := (jw_tt (jw_c11 _ (List.mem_of_getElem? (i := 60) rfl)) rfl)
set_option maxRecDepth 100000 in
theorem lk_L_187 : jw_lk RL 187 yX12_held := Or.inl ((jw_tt (jw_c11 _ (List.mem_of_getElem? (i := 58) rfl)) rfl))
set_option maxRecDepth 100000 in
theorem mt_X12_heldAt : jw_mt yX12_heldAt cX12_heldAt 4 (some .int) 2 := ⟨((jw_tt (jw_c11 _ (List.mem_of_getElem? (i := 73) rfl)) rfl)), ((jw_tt (jw_c1 _ (List.mem_of_getElem? (i := 14) rfl)) rfl)), ⟨by decide, by decide, by decide +kernel⟩, by decide⟩
set_option maxRecDepth 100000 in
theorem in_X12_heldAt : Cond.instanceMethod yX12_heldAt ∈ jw_T := (jw_tt (jw_c11 _ (List.mem_of_getElem? (i := 71) rfl)) rfl)
set_option maxRecDepth 100000 in
theorem se_X12_heldAt : Cond.selects yX12_heldAt.cls yX12_heldAt yX12_heldAt ∈ jw_T := (jw_tt (jw_c11 _ (List.mem_of_getElem? (i := 72) rfl)) rfl)
set_option maxRecDepth 100000 in
theorem lk_L_193 : jw_lk RL 193 yX12_heldAt := Or.inl ((jw_tt (jw_c11 _ (List.mem_of_getElem? (i := 70) rfl)) rfl))
set_option maxRecDepth 100000 in
theorem mt_X12_heldLength : jw_mt yX12_heldLength cX12_heldLength 3 (some .int) 1 := ⟨((jw_tt (jw_c11 _ (List.mem_of_getElem? (i := 65) rfl)) rfl)), ((jw_tt (jw_c1 _ (List.mem_of_getElem? (i := 14) rfl)) rfl)), ⟨by decide, by decide, by decide +kernel⟩, by decide⟩
set_option maxRecDepth 100000 in
theorem in_X12_heldLength : Cond.instanceMethod yX12_heldLength ∈ jw_T := (jw_tt (jw_c11 _ (List.mem_of_getElem? (i := 63) rfl)) rfl)
set_option maxRecDepth 100000 in
theorem se_X12_heldLength : Cond.selects yX12_heldLength.cls yX12_heldLength yX12_heldLength ∈ jw_T := (jw_tt (jw_c11 _ (List.mem_of_getElem? (i := 64) rfl)) rfl)
set_option maxRecDepth 100000 in
theorem lk_L_190 : jw_lk RL 190 yX12_heldLength := Or.inl ((jw_tt (jw_c11 _ (List.mem_of_getElem? (i := 62) rfl)) rfl))
set_option maxRecDepth 100000 in
theorem mt_X12_id : jw_mt yX12_id cX12_id 2 (some .int) 1 := ⟨((jw_tt (jw_c11 _ (List.mem_of_getElem? (i := 35) rfl)) rfl)), ((jw_tt (jw_c1 _ (List.mem_of_getElem? (i := 14) rfl)) rfl)), ⟨by decide, by decide, by decide +kernel⟩, by decide⟩
set_option maxRecDepth 100000 in
theorem in_X12_id : Cond.instanceMethod yX12_id ∈ jw_T := (jw_tt (jw_c11 _ (List.mem_of_getElem? (i := 33) rfl)) rfl)
set_option maxRecDepth 100000 in
theorem se_X12_id : Cond.selects yX12_id.cls yX12_id yX12_id ∈ jw_T := (jw_tt (jw_c11 _ (List.mem_of_getElem? (i := 34) rfl)) rfl)
set_option maxRecDepth 100000 in
theorem lk_L_169 : jw_lk RL 169 yX12_id := Or.inl ((jw_tt (jw_c11 _ (List.mem_of_getElem? (i := 32) rfl)) rfl))
set_option maxRecDepth 100000 in
theorem mt_X12_isSound : jw_mt yX12_isSound cX12_isSound 3 (some .boolean) 0 := ⟨((jw_tt (jw_c11 _ (List.mem_of_getElem? (i := 144) rfl)) rfl)), ((jw_tt (jw_c1 _ (List.mem_of_getElem? (i := 14) rfl)) rfl)), ⟨by decide, by decide, by decide +kernel⟩, by decide⟩
set_option maxRecDepth 100000 in
theorem in_X12_isSound : Cond.instanceMethod yX12_isSound ∈ jw_T := (jw_tt (jw_c11 _ (List.mem_of_getElem? (i := 142) rfl)) rfl)
set_option maxRecDepth 100000 in
theorem se_X12_isSound : Cond.selects yX12_isSound.cls yX12_isSound yX12_isSound ∈ jw_T := (jw_tt (jw_c11 _ (List.mem_of_getElem? (i := 143) rfl)) rfl)
set_option maxRecDepth 100000 in
theorem lk_L_238 : jw_lk RL 238 yX12_isSound := Or.inl ((jw_tt (jw_c11 _ (List.mem_of_getElem? (i := 141) rfl)) rfl))
set_option maxRecDepth 100000 in
theorem mt_X12_keep : jw_mt yX12_keep cX12_keep 3 (some .int) 1 := ⟨((jw_tt (jw_c10 _ (List.mem_of_getElem? (i := 53) rfl)) rfl)), ((jw_tt (jw_c1 _ (List.mem_of_getElem? (i := 14) rfl)) rfl)), ⟨by decide, by decide, by decide +kernel⟩, by decide⟩
set_option maxRecDepth 100000 in
theorem in_X12_keep : Cond.instanceMethod yX12_keep ∈ jw_T := (jw_tt (jw_c10 _ (List.mem_of_getElem? (i := 51) rfl)) rfl)
set_option maxRecDepth 100000 in
theorem se_X12_keep : Cond.selects yX12_keep.cls yX12_keep yX12_keep ∈ jw_T := (jw_tt (jw_c10 _ (List.mem_of_getElem? (i := 52) rfl)) rfl)
set_option maxRecDepth 100000 in
theorem lk_L_129 : jw_lk RL 129 yX12_keep := Or.inl ((jw_tt (jw_c10 _ (List.mem_of_getElem? (i := 50) rfl)) rfl))
set_option maxRecDepth 100000 in
theorem mt_X12_length : jw_mt yX12_length cX12_length 2 (some .int) 1 := ⟨((jw_tt (jw_c11 _ (List.mem_of_getElem? (i := 19) rfl)) rfl)), ((jw_tt (jw_c1 _ (List.mem_of_getElem? (i := 14) rfl)) rfl)), ⟨by decide, by decide, by decide +kernel⟩, by decide⟩
set_option maxRecDepth 100000 in
theorem in_X12_length : Cond.instanceMethod yX12_length ∈ jw_T := (jw_tt (jw_c11 _ (List.mem_of_getElem? (i := 17) rfl)) rfl)
set_option maxRecDepth 100000 in
theorem se_X12_length : Cond.selects yX12_length.cls yX12_length yX12_length ∈ jw_T := (jw_tt (jw_c11 _ (List.mem_of_getElem? (i := 18) rfl)) rfl)
set_option maxRecDepth 100000 in
theorem lk_L_163 : jw_lk RL 163 yX12_length := Or.inl ((jw_tt (jw_c11 _ (List.mem_of_getElem? (i := 16) rfl)) rfl))
set_option maxRecDepth 100000 in
theorem mt_X12_lineOf : jw_mt yX12_lineOf cX12_lineOf 3 (some .int) 1 := ⟨((jw_tt (jw_c11 _ (List.mem_of_getElem? (i := 39) rfl)) rfl)), ((jw_tt (jw_c1 _ (List.mem_of_getElem? (i := 14) rfl)) rfl)), ⟨by decide, by decide, by decide +kernel⟩, by decide⟩
set_option maxRecDepth 100000 in
theorem in_X12_lineOf : Cond.instanceMethod yX12_lineOf ∈ jw_T := (jw_tt (jw_c11 _ (List.mem_of_getElem? (i := 37) rfl)) rfl)
set_option maxRecDepth 100000 in
theorem se_X12_lineOf : Cond.selects yX12_lineOf.cls yX12_lineOf yX12_lineOf ∈ jw_T := (jw_tt (jw_c11 _ (List.mem_of_getElem? (i := 38) rfl)) rfl)
set_option maxRecDepth 100000 in
theorem lk_L_173 : jw_lk RL 173 yX12_lineOf := Or.inl ((jw_tt (jw_c11 _ (List.mem_of_getElem? (i := 36) rfl)) rfl))
set_option maxRecDepth 100000 in
theorem mt_X12_lines : jw_mt yX12_lines cX12_lines 1 (some .int) 0 := ⟨((jw_tt (jw_c11 _ (List.mem_of_getElem? (i := 15) rfl)) rfl)), ((jw_tt (jw_c1 _ (List.mem_of_getElem? (i := 14) rfl)) rfl)), ⟨by decide, by decide, by decide +kernel⟩, by decide⟩
set_option maxRecDepth 100000 in
theorem in_X12_lines : Cond.instanceMethod yX12_lines ∈ jw_T := (jw_tt (jw_c11 _ (List.mem_of_getElem? (i := 13) rfl)) rfl)
set_option maxRecDepth 100000 in
theorem se_X12_lines : Cond.selects yX12_lines.cls yX12_lines yX12_lines ∈ jw_T := (jw_tt (jw_c11 _ (List.mem_of_getElem? (i := 14) rfl)) rfl)
set_option maxRecDepth 100000 in
theorem lk_L_160 : jw_lk RL 160 yX12_lines := Or.inl ((jw_tt (jw_c11 _ (List.mem_of_getElem? (i := 12) rfl)) rfl))
set_option maxRecDepth 100000 in
theorem mt_X12_mark : jw_mt yX12_mark cX12_mark 2 (some .int) 1 := ⟨((jw_tt (jw_c11 _ (List.mem_of_getElem? (i := 47) rfl)) rfl)), ((jw_tt (jw_c1 _ (List.mem_of_getElem? (i := 14) rfl)) rfl)), ⟨by decide, by decide, by decide +kernel⟩, by decide⟩
set_option maxRecDepth 100000 in
theorem in_X12_mark : Cond.instanceMethod yX12_mark ∈ jw_T := (jw_tt (jw_c11 _ (List.mem_of_getElem? (i := 45) rfl)) rfl)
set_option maxRecDepth 100000 in
theorem se_X12_mark : Cond.selects yX12_mark.cls yX12_mark yX12_mark ∈ jw_T := (jw_tt (jw_c11 _ (List.mem_of_getElem? (i := 46) rfl)) rfl)
set_option maxRecDepth 100000 in
theorem lk_L_180 : jw_lk RL 180 yX12_mark := Or.inl ((jw_tt (jw_c11 _ (List.mem_of_getElem? (i := 44) rfl)) rfl))
set_option maxRecDepth 100000 in
theorem mt_X12_outAt : jw_mt yX12_outAt cX12_outAt 4 (some .int) 2 := ⟨((jw_tt (jw_c11 _ (List.mem_of_getElem? (i := 85) rfl)) rfl)), ((jw_tt (jw_c1 _ (List.mem_of_getElem? (i := 14) rfl)) rfl)), ⟨by decide, by decide, by decide +kernel⟩, by decide⟩
set_option maxRecDepth 100000 in
theorem in_X12_outAt : Cond.instanceMethod yX12_outAt ∈ jw_T := (jw_tt (jw_c11 _ (List.mem_of_getElem? (i := 83) rfl)) rfl)
set_option maxRecDepth 100000 in
theorem se_X12_outAt : Cond.selects yX12_outAt.cls yX12_outAt yX12_outAt ∈ jw_T := (jw_tt (jw_c11 _ (List.mem_of_getElem? (i := 84) rfl)) rfl)
set_option maxRecDepth 100000 in
theorem lk_L_203 : jw_lk RL 203 yX12_outAt := Or.inl ((jw_tt (jw_c11 _ (List.mem_of_getElem? (i := 82) rfl)) rfl))
set_option maxRecDepth 100000 in
theorem mt_X12_outLength : jw_mt yX12_outLength cX12_outLength 3 (some .int) 1 := ⟨((jw_tt (jw_c11 _ (List.mem_of_getElem? (i := 81) rfl)) rfl)), ((jw_tt (jw_c1 _ (List.mem_of_getElem? (i := 14) rfl)) rfl)), ⟨by decide, by decide, by decide +kernel⟩, by decide⟩
set_option maxRecDepth 100000 in
theorem in_X12_outLength : Cond.instanceMethod yX12_outLength ∈ jw_T := (jw_tt (jw_c11 _ (List.mem_of_getElem? (i := 79) rfl)) rfl)
set_option maxRecDepth 100000 in
theorem se_X12_outLength : Cond.selects yX12_outLength.cls yX12_outLength yX12_outLength ∈ jw_T := (jw_tt (jw_c11 _ (List.mem_of_getElem? (i := 80) rfl)) rfl)
set_option maxRecDepth 100000 in
theorem lk_L_200 : jw_lk RL 200 yX12_outLength := Or.inl ((jw_tt (jw_c11 _ (List.mem_of_getElem? (i := 78) rfl)) rfl))
set_option maxRecDepth 100000 in
theorem mt_X12_outs : jw_mt yX12_outs cX12_outs 1 (some .int) 0 := ⟨((jw_tt (jw_c11 _ (List.mem_of_getElem? (i := 77) rfl)) rfl)), ((jw_tt (jw_c1 _ (List.mem_of_getElem? (i := 14) rfl)) rfl)), ⟨by decide, by decide, by decide +kernel⟩, by decide⟩
set_option maxRecDepth 100000 in
theorem in_X12_outs : Cond.instanceMethod yX12_outs ∈ jw_T := (jw_tt (jw_c11 _ (List.mem_of_getElem? (i := 75) rfl)) rfl)
set_option maxRecDepth 100000 in
theorem se_X12_outs : Cond.selects yX12_outs.cls yX12_outs yX12_outs ∈ jw_T := (jw_tt (jw_c11 _ (List.mem_of_getElem? (i := 76) rfl)) rfl)
set_option maxRecDepth 100000 in
theorem lk_L_197 : jw_lk RL 197 yX12_outs := Or.inl ((jw_tt (jw_c11 _ (List.mem_of_getElem? (i := 74) rfl)) rfl))
set_option maxRecDepth 100000 in
theorem mt_X12_pairOf : jw_mt yX12_pairOf cX12_pairOf 3 (some .int) 2 := ⟨((jw_tt (jw_c11 _ (List.mem_of_getElem? (i := 140) rfl)) rfl)), ((jw_tt (jw_c1 _ (List.mem_of_getElem? (i := 14) rfl)) rfl)), ⟨by decide, by decide, by decide +kernel⟩, by decide⟩
set_option maxRecDepth 100000 in
theorem in_X12_pairOf : Cond.instanceMethod yX12_pairOf ∈ jw_T := (jw_tt (jw_c11 _ (List.mem_of_getElem? (i := 138) rfl)) rfl)
set_option maxRecDepth 100000 in
theorem se_X12_pairOf : Cond.selects yX12_pairOf.cls yX12_pairOf yX12_pairOf ∈ jw_T := (jw_tt (jw_c11 _ (List.mem_of_getElem? (i := 139) rfl)) rfl)
set_option maxRecDepth 100000 in
theorem lk_L_233 : jw_lk RL 233 yX12_pairOf := Or.inl ((jw_tt (jw_c11 _ (List.mem_of_getElem? (i := 137) rfl)) rfl))
set_option maxRecDepth 100000 in
theorem mt_X12_patternFault : jw_mt yX12_patternFault cX12_patternFault 1 (some .int) 0 := ⟨((jw_tt (jw_c8 _ (List.mem_of_getElem? (i := 223) rfl)) rfl)), ((jw_tt (jw_c1 _ (List.mem_of_getElem? (i := 14) rfl)) rfl)), ⟨by decide, by decide, by decide +kernel⟩, by decide⟩
set_option maxRecDepth 100000 in
theorem in_X12_patternFault : Cond.instanceMethod yX12_patternFault ∈ jw_T := (jw_tt (jw_c8 _ (List.mem_of_getElem? (i := 221) rfl)) rfl)
set_option maxRecDepth 100000 in
theorem se_X12_patternFault : Cond.selects yX12_patternFault.cls yX12_patternFault yX12_patternFault ∈ jw_T := (jw_tt (jw_c8 _ (List.mem_of_getElem? (i := 222) rfl)) rfl)
set_option maxRecDepth 100000 in
theorem lk_L_122 : jw_lk RL 122 yX12_patternFault := Or.inl ((jw_tt (jw_c8 _ (List.mem_of_getElem? (i := 220) rfl)) rfl))
set_option maxRecDepth 100000 in
theorem mt_X12_play : jw_mt yX12_play cX12_play 2 (some .int) 1 := ⟨((jw_tt (jw_c10 _ (List.mem_of_getElem? (i := 60) rfl)) rfl)), ((jw_tt (jw_c1 _ (List.mem_of_getElem? (i := 14) rfl)) rfl)), ⟨by decide, by decide, by decide +kernel⟩, by decide⟩
set_option maxRecDepth 100000 in
theorem in_X12_play : Cond.instanceMethod yX12_play ∈ jw_T := (jw_tt (jw_c10 _ (List.mem_of_getElem? (i := 58) rfl)) rfl)
set_option maxRecDepth 100000 in
theorem se_X12_play : Cond.selects yX12_play.cls yX12_play yX12_play ∈ jw_T := (jw_tt (jw_c10 _ (List.mem_of_getElem? (i := 59) rfl)) rfl)
set_option maxRecDepth 100000 in
theorem lk_L_132 : jw_lk RL 132 yX12_play := Or.inl ((jw_tt (jw_c10 _ (List.mem_of_getElem? (i := 57) rfl)) rfl))
set_option maxRecDepth 100000 in
theorem mt_X12_present : jw_mt yX12_present cX12_present 1 (some .int) 0 := ⟨((jw_tt (jw_c11 _ (List.mem_of_getElem? (i := 43) rfl)) rfl)), ((jw_tt (jw_c1 _ (List.mem_of_getElem? (i := 14) rfl)) rfl)), ⟨by decide, by decide, by decide +kernel⟩, by decide⟩
set_option maxRecDepth 100000 in
theorem in_X12_present : Cond.instanceMethod yX12_present ∈ jw_T := (jw_tt (jw_c11 _ (List.mem_of_getElem? (i := 41) rfl)) rfl)
set_option maxRecDepth 100000 in
theorem se_X12_present : Cond.selects yX12_present.cls yX12_present yX12_present ∈ jw_T := (jw_tt (jw_c11 _ (List.mem_of_getElem? (i := 42) rfl)) rfl)
set_option maxRecDepth 100000 in
theorem lk_L_177 : jw_lk RL 177 yX12_present := Or.inl ((jw_tt (jw_c11 _ (List.mem_of_getElem? (i := 40) rfl)) rfl))
set_option maxRecDepth 100000 in
theorem mt_X12_reason : jw_mt yX12_reason cX12_reason 1 (some .int) 0 := ⟨((jw_tt (jw_c10 _ (List.mem_of_getElem? (i := 223) rfl)) rfl)), ((jw_tt (jw_c1 _ (List.mem_of_getElem? (i := 14) rfl)) rfl)), ⟨by decide, by decide, by decide +kernel⟩, by decide⟩
set_option maxRecDepth 100000 in
theorem in_X12_reason : Cond.instanceMethod yX12_reason ∈ jw_T := (jw_tt (jw_c10 _ (List.mem_of_getElem? (i := 221) rfl)) rfl)
set_option maxRecDepth 100000 in
theorem se_X12_reason : Cond.selects yX12_reason.cls yX12_reason yX12_reason ∈ jw_T := (jw_tt (jw_c10 _ (List.mem_of_getElem? (i := 222) rfl)) rfl)
set_option maxRecDepth 100000 in
theorem lk_L_139 : jw_lk RL 139 yX12_reason := Or.inl ((jw_tt (jw_c10 _ (List.mem_of_getElem? (i := 220) rfl)) rfl))
set_option maxRecDepth 100000 in
theorem mt_X12_run : jw_mt yX12_run cX12_run 1 (some .int) 0 := ⟨((jw_tt (jw_c8 _ (List.mem_of_getElem? (i := 231) rfl)) rfl)), ((jw_tt (jw_c1 _ (List.mem_of_getElem? (i := 14) rfl)) rfl)), ⟨by decide, by decide, by decide +kernel⟩, by decide⟩
set_option maxRecDepth 100000 in
theorem in_X12_run : Cond.instanceMethod yX12_run ∈ jw_T := (jw_tt (jw_c8 _ (List.mem_of_getElem? (i := 229) rfl)) rfl)
set_option maxRecDepth 100000 in
theorem se_X12_run : Cond.selects yX12_run.cls yX12_run yX12_run ∈ jw_T := (jw_tt (jw_c8 _ (List.mem_of_getElem? (i := 230) rfl)) rfl)
set_option maxRecDepth 100000 in
theorem lk_L_126 : jw_lk RL 126 yX12_run := Or.inl ((jw_tt (jw_c8 _ (List.mem_of_getElem? (i := 228) rfl)) rfl))
set_option maxRecDepth 100000 in
theorem mt_X12_sample : jw_mt yX12_sample cX12_sample 8 (some .int) 2 := ⟨((jw_tt (jw_c11 _ (List.mem_of_getElem? (i := 51) rfl)) rfl)), ((jw_tt (jw_c1 _ (List.mem_of_getElem? (i := 14) rfl)) rfl)), ⟨by decide, by decide, by decide +kernel⟩, by decide⟩
set_option maxRecDepth 100000 in
theorem in_X12_sample : Cond.instanceMethod yX12_sample ∈ jw_T := (jw_tt (jw_c11 _ (List.mem_of_getElem? (i := 49) rfl)) rfl)
set_option maxRecDepth 100000 in
theorem se_X12_sample : Cond.selects yX12_sample.cls yX12_sample yX12_sample ∈ jw_T := (jw_tt (jw_c11 _ (List.mem_of_getElem? (i := 50) rfl)) rfl)
set_option maxRecDepth 100000 in
theorem lk_L_183 : jw_lk RL 183 yX12_sample := Or.inl ((jw_tt (jw_c11 _ (List.mem_of_getElem? (i := 48) rfl)) rfl))
set_option maxRecDepth 100000 in
theorem mt_X12_scriptAt : jw_mt yX12_scriptAt cX12_scriptAt 4 (some .int) 2 := ⟨((jw_tt (jw_c10 _ (List.mem_of_getElem? (i := 231) rfl)) rfl)), ((jw_tt (jw_c1 _ (List.mem_of_getElem? (i := 14) rfl)) rfl)), ⟨by decide, by decide, by decide +kernel⟩, by decide⟩
set_option maxRecDepth 100000 in
theorem in_X12_scriptAt : Cond.instanceMethod yX12_scriptAt ∈ jw_T := (jw_tt (jw_c10 _ (List.mem_of_getElem? (i := 229) rfl)) rfl)
set_option maxRecDepth 100000 in
theorem se_X12_scriptAt : Cond.selects yX12_scriptAt.cls yX12_scriptAt yX12_scriptAt ∈ jw_T := (jw_tt (jw_c10 _ (List.mem_of_getElem? (i := 230) rfl)) rfl)
set_option maxRecDepth 100000 in
theorem lk_L_146 : jw_lk RL 146 yX12_scriptAt := Or.inl ((jw_tt (jw_c10 _ (List.mem_of_getElem? (i := 228) rfl)) rfl))
set_option maxRecDepth 100000 in
theorem mt_X12_scriptLength : jw_mt yX12_scriptLength cX12_scriptLength 2 (some .int) 1 := ⟨((jw_tt (jw_c10 _ (List.mem_of_getElem? (i := 227) rfl)) rfl)), ((jw_tt (jw_c1 _ (List.mem_of_getElem? (i := 14) rfl)) rfl)), ⟨by decide, by decide, by decide +kernel⟩, by decide⟩
set_option maxRecDepth 100000 in
theorem in_X12_scriptLength : Cond.instanceMethod yX12_scriptLength ∈ jw_T := (jw_tt (jw_c10 _ (List.mem_of_getElem? (i := 225) rfl)) rfl)
set_option maxRecDepth 100000 in
theorem se_X12_scriptLength : Cond.selects yX12_scriptLength.cls yX12_scriptLength yX12_scriptLength ∈ jw_T := (jw_tt (jw_c10 _ (List.mem_of_getElem? (i := 226) rfl)) rfl)
set_option maxRecDepth 100000 in
theorem lk_L_142 : jw_lk RL 142 yX12_scriptLength := Or.inl ((jw_tt (jw_c10 _ (List.mem_of_getElem? (i := 224) rfl)) rfl))
set_option maxRecDepth 100000 in
theorem mt_X12_stream : jw_mt yX12_stream cX12_stream 2 (some .int) 1 := ⟨((jw_tt (jw_c10 _ (List.mem_of_getElem? (i := 68) rfl)) rfl)), ((jw_tt (jw_c1 _ (List.mem_of_getElem? (i := 14) rfl)) rfl)), ⟨by decide, by decide, by decide +kernel⟩, by decide⟩
set_option maxRecDepth 100000 in
theorem in_X12_stream : Cond.instanceMethod yX12_stream ∈ jw_T := (jw_tt (jw_c10 _ (List.mem_of_getElem? (i := 66) rfl)) rfl)
set_option maxRecDepth 100000 in
theorem se_X12_stream : Cond.selects yX12_stream.cls yX12_stream yX12_stream ∈ jw_T := (jw_tt (jw_c10 _ (List.mem_of_getElem? (i := 67) rfl)) rfl)
set_option maxRecDepth 100000 in
theorem lk_L_135 : jw_lk RL 135 yX12_stream := Or.inl ((jw_tt (jw_c10 _ (List.mem_of_getElem? (i := 65) rfl)) rfl))
set_option maxRecDepth 100000 in
theorem mt_X12_thrown : jw_mt yX12_thrown cX12_thrown 1 (some .int) 0 := ⟨((jw_tt (jw_c8 _ (List.mem_of_getElem? (i := 105) rfl)) rfl)), ((jw_tt (jw_c1 _ (List.mem_of_getElem? (i := 14) rfl)) rfl)), ⟨by decide, by decide, by decide +kernel⟩, by decide⟩
set_option maxRecDepth 100000 in
theorem in_X12_thrown : Cond.instanceMethod yX12_thrown ∈ jw_T := (jw_tt (jw_c8 _ (List.mem_of_getElem? (i := 103) rfl)) rfl)
set_option maxRecDepth 100000 in
theorem se_X12_thrown : Cond.selects yX12_thrown.cls yX12_thrown yX12_thrown ∈ jw_T := (jw_tt (jw_c8 _ (List.mem_of_getElem? (i := 104) rfl)) rfl)
set_option maxRecDepth 100000 in
theorem lk_L_108 : jw_lk RL 108 yX12_thrown := Or.inl ((jw_tt (jw_c8 _ (List.mem_of_getElem? (i := 102) rfl)) rfl))
set_option maxRecDepth 100000 in
theorem mt_X12_type : jw_mt yX12_type cX12_type 2 (some .int) 1 := ⟨((jw_tt (jw_c8 _ (List.mem_of_getElem? (i := 109) rfl)) rfl)), ((jw_tt (jw_c1 _ (List.mem_of_getElem? (i := 14) rfl)) rfl)), ⟨by decide, by decide, by decide +kernel⟩, by decide⟩
set_option maxRecDepth 100000 in
theorem in_X12_type : Cond.instanceMethod yX12_type ∈ jw_T := (jw_tt (jw_c8 _ (List.mem_of_getElem? (i := 107) rfl)) rfl)
set_option maxRecDepth 100000 in
theorem se_X12_type : Cond.selects yX12_type.cls yX12_type yX12_type ∈ jw_T := (jw_tt (jw_c8 _ (List.mem_of_getElem? (i := 108) rfl)) rfl)
set_option maxRecDepth 100000 in
theorem lk_L_107 : jw_lk RL 107 yX12_type := Or.inl ((jw_tt (jw_c8 _ (List.mem_of_getElem? (i := 106) rfl)) rfl))
set_option maxRecDepth 100000 in
theorem mt_X12_undo : jw_mt yX12_undo cX12_undo 1 (some .int) 0 := ⟨((jw_tt (jw_c10 _ (List.mem_of_getElem? (i := 235) rfl)) rfl)), ((jw_tt (jw_c1 _ (List.mem_of_getElem? (i := 14) rfl)) rfl)), ⟨by decide, by decide, by decide +kernel⟩, by decide⟩
set_option maxRecDepth 100000 in
theorem in_X12_undo : Cond.instanceMethod yX12_undo ∈ jw_T := (jw_tt (jw_c10 _ (List.mem_of_getElem? (i := 233) rfl)) rfl)
set_option maxRecDepth 100000 in
theorem se_X12_undo : Cond.selects yX12_undo.cls yX12_undo yX12_undo ∈ jw_T := (jw_tt (jw_c10 _ (List.mem_of_getElem? (i := 234) rfl)) rfl)
set_option maxRecDepth 100000 in
theorem lk_L_149 : jw_lk RL 149 yX12_undo := Or.inl ((jw_tt (jw_c10 _ (List.mem_of_getElem? (i := 232) rfl)) rfl))
set_option maxRecDepth 100000 in
theorem mt_X12_undoRun : jw_mt yX12_undoRun cX12_undoRun 3 (some .int) 0 := ⟨((jw_tt (jw_c11 _ (List.mem_of_getElem? (i := 7) rfl)) rfl)), ((jw_tt (jw_c1 _ (List.mem_of_getElem? (i := 14) rfl)) rfl)), ⟨by decide, by decide, by decide +kernel⟩, by decide⟩
set_option maxRecDepth 100000 in
theorem in_X12_undoRun : Cond.instanceMethod yX12_undoRun ∈ jw_T := (jw_tt (jw_c11 _ (List.mem_of_getElem? (i := 5) rfl)) rfl)
set_option maxRecDepth 100000 in
theorem se_X12_undoRun : Cond.selects yX12_undoRun.cls yX12_undoRun yX12_undoRun ∈ jw_T := (jw_tt (jw_c11 _ (List.mem_of_getElem? (i := 6) rfl)) rfl)
set_option maxRecDepth 100000 in
theorem lk_L_152 : jw_lk RL 152 yX12_undoRun := Or.inl ((jw_tt (jw_c11 _ (List.mem_of_getElem? (i := 4) rfl)) rfl))
set_option maxRecDepth 100000 in
theorem mt_X12_wipe : jw_mt yX12_wipe cX12_wipe 2 (some .int) 0 := ⟨((jw_tt (jw_c8 _ (List.mem_of_getElem? (i := 113) rfl)) rfl)), ((jw_tt (jw_c1 _ (List.mem_of_getElem? (i := 14) rfl)) rfl)), ⟨by decide, by decide, by decide +kernel⟩, by decide⟩
set_option maxRecDepth 100000 in
theorem in_X12_wipe : Cond.instanceMethod yX12_wipe ∈ jw_T := (jw_tt (jw_c8 _ (List.mem_of_getElem? (i := 111) rfl)) rfl)
set_option maxRecDepth 100000 in
theorem se_X12_wipe : Cond.selects yX12_wipe.cls yX12_wipe yX12_wipe ∈ jw_T := (jw_tt (jw_c8 _ (List.mem_of_getElem? (i := 112) rfl)) rfl)
set_option maxRecDepth 100000 in
theorem lk_L_114 : jw_lk RL 114 yX12_wipe := Or.inl ((jw_tt (jw_c8 _ (List.mem_of_getElem? (i := 110) rfl)) rfl))
set_option maxRecDepth 100000 in
theorem cl_L_13 : Cond.classLink RL 13 "java/lang/IllegalArgumentException" ∈ jw_T := (jw_tt (jw_c4 _ (List.mem_of_getElem? (i := 29) rfl)) rfl)
set_option maxRecDepth 100000 in
theorem cl_L_15 : Cond.classLink RL 15 "java/lang/IllegalStateException" ∈ jw_T := (jw_tt (jw_c4 _ (List.mem_of_getElem? (i := 30) rfl)) rfl)
set_option maxRecDepth 100000 in
theorem cl_L_24 : Cond.classLink RL 24 "java/lang/IndexOutOfBoundsException" ∈ jw_T := (jw_tt (jw_c5 _ (List.mem_of_getElem? (i := 206) rfl)) rfl)
set_option maxRecDepth 100000 in
theorem cl_L_8 : Cond.classLink RL 8 (jw_cn 11) ∈ jw_T := (jw_tt (jw_c1 _ (List.mem_of_getElem? (i := 23) rfl)) rfl)
set_option maxRecDepth 100000 in
theorem cl_L_99 : Cond.classLink RL 99 (jw_cn 12) ∈ jw_T := (jw_tt (jw_c7 _ (List.mem_of_getElem? (i := 93) rfl)) rfl)
set_option maxRecDepth 100000 in
theorem inst_11 : Cond.instantiable (jw_cn 11) (jw_nf 11) ∈ jw_T := (jw_tt (jw_c1 _ (List.mem_of_getElem? (i := 24) rfl)) rfl)
set_option maxRecDepth 100000 in
theorem ini_11 : Cond.initialized (jw_cn 11) ∈ jw_T := (jw_tt (jw_c1 _ (List.mem_of_getElem? (i := 1) rfl)) rfl)
set_option maxRecDepth 100000 in
theorem inst_12 : Cond.instantiable (jw_cn 12) (jw_nf 12) ∈ jw_T := (jw_tt (jw_c7 _ (List.mem_of_getElem? (i := 94) rfl)) rfl)
set_option maxRecDepth 100000 in
theorem ini_12 : Cond.initialized (jw_cn 12) ∈ jw_T := (jw_tt (jw_c1 _ (List.mem_of_getElem? (i := 14) rfl)) rfl)
noncomputable def f_L_type (h : jw_H) (x0 : Option Nat) (x1 : Int32) (x2 : Option Nat) : Option (Int32 × jw_H) :=
 (jw_rc h 11 x0).bind fun a1 =>
 jw_b2 (f_X11_type h a1 x1) fun w2 h2 => match w2 with
  | .inl v => (jw_sl h2 x2 (0 : Int32) v.toInt64).bind fun h3 => some ((0 : Int32), h3)
  | .inr E => if E = "java/lang/IllegalArgumentException" then some ((1 : Int32), h2) else if E = "java/lang/IllegalStateException" then some ((2 : Int32), h2) else none

set_option maxRecDepth 100000 in
set_option maxHeartbeats 4000000 in
theorem l_L_type {hi : jw_H} {h : jw_H} {x0 : Option Nat} {x1 : Int32} {x2 : Option Nat} {r : Int32} {h' : jw_H} (hq : f_L_type h x0 x1 x2 = some (r, h')) : jw_E 9 (yL_type.cls, cL_type, 4, false, some .int, some [(0, 9, 12, 13), (0, 9, 15, 15)], none) hi 0 [some (va_rf x0), some (.int x1), some (va_rf x2), none] [] h (.inl (some (.int r))) h' := by
  unfold f_L_type at hq
  refine jw_aload_n dL_type_0 (o := x2) rfl ?_
  refine jw_iconst dL_type_1 (v := (0 : Int32)) (by decide) ?_
  refine jw_aload_n dL_type_2 (o := x0) rfl ?_
  refine jw_iload_n dL_type_3 rfl ?_
  obtain ⟨a1, ea1, hq⟩ := Option.bind_eq_some_iff.mp hq
  obtain ⟨eo, et⟩ := jw_rc_spec ea1
  obtain ⟨w2, h2, ew, hq⟩ := jw_b2_spec hq
  cases w2 with
  | inl v =>
    refine jw_callV (As := [.int x1]) (S := [.int (0 : Int32), va_rf x2]) (a := a1) (v := some (.int v)) dL_type_4 mt_X11_type in_X11_type se_X11_type lk_L_7 (c_X11_type ew) et (by decide) rfl rfl (by decide) (by simp only [List.map_cons, List.map_nil, List.sum_cons, List.sum_nil, jw_cat_rf, jw_cat_i, jw_cat_l, jw_cat_a, jw_cat_s] <;> decide) (by cases eo; rfl) ?_
    refine jw_i2l dL_type_7 ?_
    obtain ⟨h3, e3, hq⟩ := Option.bind_eq_some_iff.mp hq
    refine jw_last (o := x2) dL_type_8 e3 ?_
    refine jw_goto (tgt := 18) dL_type_9 (by decide) ?_
    refine jw_iconst dL_type_18 (v := (0 : Int32)) (by decide) ?_
    cases hq
    exact jw_iret (ty := .int) dL_type_19 rfl rfl
  | inr E =>
    rcases jw_if hq with ⟨c, hq⟩ | ⟨c, hq⟩
    · subst c
      refine jw_callX (As := [.int x1]) (S := [.int (0 : Int32), va_rf x2]) (a := a1) (n2 := 3) (len := 1) (pre := []) (x := ⟨0, 9, 12, 13⟩) (suf := [⟨0, 9, 15, 15⟩]) (L' := [some (va_rf x0), some (.int x1), some (va_rf x2), none]) (name := "java/lang/IllegalArgumentException") dL_type_4 mt_X11_type in_X11_type se_X11_type lk_L_7 (c_X11_type ew) et (by decide) rfl rfl (by decide) (by simp only [List.map_cons, List.map_nil, List.sum_cons, List.sum_nil, jw_cat_rf, jw_cat_i, jw_cat_l, jw_cat_a, jw_cat_s] <;> decide) (by cases eo; rfl) (tb := [(0, 9, 12, 13), (0, 9, 15, 15)]) rfl rfl (fun z hz => nomatch hz) rfl (by decide) cl_L_13 ca_IllegalArgumentException (Or.inl ⟨3, rfl, rfl, dL_type_12⟩) (Nat.le_of_ble_eq_true rfl) ((congrArg (fun q => q.set 3 none) (jw_clr_of (j := 2) jw_long_rf)).trans rfl) ?_
      refine jw_iconst dL_type_13 (v := (1 : Int32)) (by decide) ?_
      cases hq
      exact jw_iret (ty := .int) dL_type_14 rfl rfl
    · skip
      rcases jw_if hq with ⟨c, hq⟩ | ⟨c, hq⟩
      · subst c
        refine jw_callX (As := [.int x1]) (S := [.int (0 : Int32), va_rf x2]) (a := a1) (n2 := 3) (len := 1) (pre := [⟨0, 9, 12, 13⟩]) (x := ⟨0, 9, 15, 15⟩) (suf := []) (L' := [some (va_rf x0), some (.int x1), some (va_rf x2), none]) (name := "java/lang/IllegalStateException") dL_type_4 mt_X11_type in_X11_type se_X11_type lk_L_7 (c_X11_type ew) et (by decide) rfl rfl (by decide) (by simp only [List.map_cons, List.map_nil, List.sum_cons, List.sum_nil, jw_cat_rf, jw_cat_i, jw_cat_l, jw_cat_a, jw_cat_s] <;> decide) (by cases eo; rfl) (tb := [(0, 9, 12, 13), (0, 9, 15, 15)]) rfl rfl (fun z hz => by rw [List.mem_singleton] at hz; subst hz; exact Or.inr ⟨by decide, "java/lang/IllegalArgumentException", cl_L_13, by decide⟩) rfl (by decide) cl_L_15 ca_IllegalStateException (Or.inl ⟨3, rfl, rfl, dL_type_15⟩) (Nat.le_of_ble_eq_true rfl) ((congrArg (fun q => q.set 3 none) (jw_clr_of (j := 2) jw_long_rf)).trans rfl) ?_
        refine jw_iconst dL_type_16 (v := (2 : Int32)) (by decide) ?_
        cases hq
        exact jw_iret (ty := .int) dL_type_17 rfl rfl
      · skip
        exact nomatch hq
theorem c_L_type {h : jw_H} {x0 : Option Nat} {x1 : Int32} {x2 : Option Nat} {r : Int32} {h' : jw_H} (hq : f_L_type h x0 x1 x2 = some (r, h')) : jw_Con (Cond.codeWith yL_type cL_type 4 (some .int) [(0, 9, 12, 13), (0, 9, 15, 15)]) yL_type 9 [va_rf x0, .int x1, va_rf x2] h (.inl (some (.int r))) h' :=
  jw_conW (by decide +kernel) (by simp [jw_ent, jw_sl0_nil, jw_sl0_int, jw_sl0_long, jw_sl0_ref, jw_sl0_rf, jw_sl0_scr, List.replicate]) (by simp [jw_sl0_nil, jw_sl0_int, jw_sl0_long, jw_sl0_ref, jw_sl0_rf, jw_sl0_scr]) (l_L_type hq)

noncomputable def f_L_run (h : jw_H) (x0 : Option Nat) (x1 : Option Nat) : Option (Int32 × jw_H) :=
 (jw_rc h 11 x0).bind fun a1 =>
 jw_b2 (f_X11_run h a1 ) fun w2 h2 => match w2 with
  | .inl v => (jw_sl h2 x1 (0 : Int32) v.toInt64).bind fun h3 => some ((0 : Int32), h3)
  | .inr E => if E = "java/lang/IllegalStateException" then some ((1 : Int32), h2) else none

set_option maxRecDepth 100000 in
set_option maxHeartbeats 4000000 in
theorem l_L_run {hi : jw_H} {h : jw_H} {x0 : Option Nat} {x1 : Option Nat} {r : Int32} {h' : jw_H} (hq : f_L_run h x0 x1 = some (r, h')) : jw_E 14 (yL_run.cls, cL_run, 3, false, some .int, some [(0, 8, 11, 15)], none) hi 0 [some (va_rf x0), some (va_rf x1), none] [] h (.inl (some (.int r))) h' := by
  unfold f_L_run at hq
  refine jw_aload_n dL_run_0 (o := x1) rfl ?_
  refine jw_iconst dL_run_1 (v := (0 : Int32)) (by decide) ?_
  refine jw_aload_n dL_run_2 (o := x0) rfl ?_
  obtain ⟨a1, ea1, hq⟩ := Option.bind_eq_some_iff.mp hq
  obtain ⟨eo, et⟩ := jw_rc_spec ea1
  obtain ⟨w2, h2, ew, hq⟩ := jw_b2_spec hq
  cases w2 with
  | inl v =>
    refine jw_callV (As := []) (S := [.int (0 : Int32), va_rf x1]) (a := a1) (v := some (.int v)) dL_run_3 mt_X11_run in_X11_run se_X11_run lk_L_17 (c_X11_run ew) et (by decide) rfl rfl (by decide) (by simp only [List.map_cons, List.map_nil, List.sum_cons, List.sum_nil, jw_cat_rf, jw_cat_i, jw_cat_l, jw_cat_a, jw_cat_s] <;> decide) (by cases eo; rfl) ?_
    refine jw_i2l dL_run_6 ?_
    obtain ⟨h3, e3, hq⟩ := Option.bind_eq_some_iff.mp hq
    refine jw_last (o := x1) dL_run_7 e3 ?_
    refine jw_goto (tgt := 14) dL_run_8 (by decide) ?_
    refine jw_iconst dL_run_14 (v := (0 : Int32)) (by decide) ?_
    cases hq
    exact jw_iret (ty := .int) dL_run_15 rfl rfl
  | inr E =>
    rcases jw_if hq with ⟨c, hq⟩ | ⟨c, hq⟩
    · subst c
      refine jw_callX (As := []) (S := [.int (0 : Int32), va_rf x1]) (a := a1) (n2 := 2) (len := 1) (pre := []) (x := ⟨0, 8, 11, 15⟩) (suf := []) (L' := [some (va_rf x0), some (va_rf x1), none]) (name := "java/lang/IllegalStateException") dL_run_3 mt_X11_run in_X11_run se_X11_run lk_L_17 (c_X11_run ew) et (by decide) rfl rfl (by decide) (by simp only [List.map_cons, List.map_nil, List.sum_cons, List.sum_nil, jw_cat_rf, jw_cat_i, jw_cat_l, jw_cat_a, jw_cat_s] <;> decide) (by cases eo; rfl) (tb := [(0, 8, 11, 15)]) rfl rfl (fun z hz => nomatch hz) rfl (by decide) cl_L_15 ca_IllegalStateException (Or.inl ⟨2, rfl, rfl, dL_run_11⟩) (Nat.le_of_ble_eq_true rfl) ((congrArg (fun q => q.set 2 none) (jw_clr_of (j := 1) jw_long_rf)).trans rfl) ?_
      refine jw_iconst dL_run_12 (v := (1 : Int32)) (by decide) ?_
      cases hq
      exact jw_iret (ty := .int) dL_run_13 rfl rfl
    · skip
      exact nomatch hq
theorem c_L_run {h : jw_H} {x0 : Option Nat} {x1 : Option Nat} {r : Int32} {h' : jw_H} (hq : f_L_run h x0 x1 = some (r, h')) : jw_Con (Cond.codeWith yL_run cL_run 3 (some .int) [(0, 8, 11, 15)]) yL_run 14 [va_rf x0, va_rf x1] h (.inl (some (.int r))) h' :=
  jw_conW (by decide +kernel) (by simp [jw_ent, jw_sl0_nil, jw_sl0_int, jw_sl0_long, jw_sl0_ref, jw_sl0_rf, jw_sl0_scr, List.replicate]) (by simp [jw_sl0_nil, jw_sl0_int, jw_sl0_long, jw_sl0_ref, jw_sl0_rf, jw_sl0_scr]) (l_L_run hq)

noncomputable def f_L_keep (h : jw_H) (x0 : Option Nat) (x1 : Int32) (x2 : Option Nat) : Option (Int32 × jw_H) :=
 (jw_rc h 11 x0).bind fun a1 =>
 jw_b2 (f_X11_keep h a1 x1) fun w2 h2 => match w2 with
  | .inl v => (jw_sl h2 x2 (0 : Int32) v.toInt64).bind fun h3 => some ((0 : Int32), h3)
  | .inr E => if E = "java/lang/IndexOutOfBoundsException" then some ((1 : Int32), h2) else if E = "java/lang/IllegalStateException" then some ((2 : Int32), h2) else none

set_option maxRecDepth 100000 in
set_option maxHeartbeats 4000000 in
theorem l_L_keep {hi : jw_H} {h : jw_H} {x0 : Option Nat} {x1 : Int32} {x2 : Option Nat} {r : Int32} {h' : jw_H} (hq : f_L_keep h x0 x1 x2 = some (r, h')) : jw_E 9 (yL_keep.cls, cL_keep, 4, false, some .int, some [(0, 9, 12, 24), (0, 9, 15, 15)], none) hi 0 [some (va_rf x0), some (.int x1), some (va_rf x2), none] [] h (.inl (some (.int r))) h' := by
  unfold f_L_keep at hq
  refine jw_aload_n dL_keep_0 (o := x2) rfl ?_
  refine jw_iconst dL_keep_1 (v := (0 : Int32)) (by decide) ?_
  refine jw_aload_n dL_keep_2 (o := x0) rfl ?_
  refine jw_iload_n dL_keep_3 rfl ?_
  obtain ⟨a1, ea1, hq⟩ := Option.bind_eq_some_iff.mp hq
  obtain ⟨eo, et⟩ := jw_rc_spec ea1
  obtain ⟨w2, h2, ew, hq⟩ := jw_b2_spec hq
  cases w2 with
  | inl v =>
    refine jw_callV (As := [.int x1]) (S := [.int (0 : Int32), va_rf x2]) (a := a1) (v := some (.int v)) dL_keep_4 mt_X11_keep in_X11_keep se_X11_keep lk_L_21 (c_X11_keep ew) et (by decide) rfl rfl (by decide) (by simp only [List.map_cons, List.map_nil, List.sum_cons, List.sum_nil, jw_cat_rf, jw_cat_i, jw_cat_l, jw_cat_a, jw_cat_s] <;> decide) (by cases eo; rfl) ?_
    refine jw_i2l dL_keep_7 ?_
    obtain ⟨h3, e3, hq⟩ := Option.bind_eq_some_iff.mp hq
    refine jw_last (o := x2) dL_keep_8 e3 ?_
    refine jw_goto (tgt := 18) dL_keep_9 (by decide) ?_
    refine jw_iconst dL_keep_18 (v := (0 : Int32)) (by decide) ?_
    cases hq
    exact jw_iret (ty := .int) dL_keep_19 rfl rfl
  | inr E =>
    rcases jw_if hq with ⟨c, hq⟩ | ⟨c, hq⟩
    · subst c
      refine jw_callX (As := [.int x1]) (S := [.int (0 : Int32), va_rf x2]) (a := a1) (n2 := 3) (len := 1) (pre := []) (x := ⟨0, 9, 12, 24⟩) (suf := [⟨0, 9, 15, 15⟩]) (L' := [some (va_rf x0), some (.int x1), some (va_rf x2), none]) (name := "java/lang/IndexOutOfBoundsException") dL_keep_4 mt_X11_keep in_X11_keep se_X11_keep lk_L_21 (c_X11_keep ew) et (by decide) rfl rfl (by decide) (by simp only [List.map_cons, List.map_nil, List.sum_cons, List.sum_nil, jw_cat_rf, jw_cat_i, jw_cat_l, jw_cat_a, jw_cat_s] <;> decide) (by cases eo; rfl) (tb := [(0, 9, 12, 24), (0, 9, 15, 15)]) rfl rfl (fun z hz => nomatch hz) rfl (by decide) cl_L_24 ca_IndexOutOfBoundsException (Or.inl ⟨3, rfl, rfl, dL_keep_12⟩) (Nat.le_of_ble_eq_true rfl) ((congrArg (fun q => q.set 3 none) (jw_clr_of (j := 2) jw_long_rf)).trans rfl) ?_
      refine jw_iconst dL_keep_13 (v := (1 : Int32)) (by decide) ?_
      cases hq
      exact jw_iret (ty := .int) dL_keep_14 rfl rfl
    · skip
      rcases jw_if hq with ⟨c, hq⟩ | ⟨c, hq⟩
      · subst c
        refine jw_callX (As := [.int x1]) (S := [.int (0 : Int32), va_rf x2]) (a := a1) (n2 := 3) (len := 1) (pre := [⟨0, 9, 12, 24⟩]) (x := ⟨0, 9, 15, 15⟩) (suf := []) (L' := [some (va_rf x0), some (.int x1), some (va_rf x2), none]) (name := "java/lang/IllegalStateException") dL_keep_4 mt_X11_keep in_X11_keep se_X11_keep lk_L_21 (c_X11_keep ew) et (by decide) rfl rfl (by decide) (by simp only [List.map_cons, List.map_nil, List.sum_cons, List.sum_nil, jw_cat_rf, jw_cat_i, jw_cat_l, jw_cat_a, jw_cat_s] <;> decide) (by cases eo; rfl) (tb := [(0, 9, 12, 24), (0, 9, 15, 15)]) rfl rfl (fun z hz => by rw [List.mem_singleton] at hz; subst hz; exact Or.inr ⟨by decide, "java/lang/IndexOutOfBoundsException", cl_L_24, by decide⟩) rfl (by decide) cl_L_15 ca_IllegalStateException (Or.inl ⟨3, rfl, rfl, dL_keep_15⟩) (Nat.le_of_ble_eq_true rfl) ((congrArg (fun q => q.set 3 none) (jw_clr_of (j := 2) jw_long_rf)).trans rfl) ?_
        refine jw_iconst dL_keep_16 (v := (2 : Int32)) (by decide) ?_
        cases hq
        exact jw_iret (ty := .int) dL_keep_17 rfl rfl
      · skip
        exact nomatch hq
theorem c_L_keep {h : jw_H} {x0 : Option Nat} {x1 : Int32} {x2 : Option Nat} {r : Int32} {h' : jw_H} (hq : f_L_keep h x0 x1 x2 = some (r, h')) : jw_Con (Cond.codeWith yL_keep cL_keep 4 (some .int) [(0, 9, 12, 24), (0, 9, 15, 15)]) yL_keep 9 [va_rf x0, .int x1, va_rf x2] h (.inl (some (.int r))) h' :=
  jw_conW (by decide +kernel) (by simp [jw_ent, jw_sl0_nil, jw_sl0_int, jw_sl0_long, jw_sl0_ref, jw_sl0_rf, jw_sl0_scr, List.replicate]) (by simp [jw_sl0_nil, jw_sl0_int, jw_sl0_long, jw_sl0_ref, jw_sl0_rf, jw_sl0_scr]) (l_L_keep hq)

noncomputable def f_L_play (h : jw_H) (x0 : Option Nat) (x1 : Int32) (x2 : Option Nat) : Option (Int32 × jw_H) :=
 (jw_rc h 11 x0).bind fun a1 =>
 jw_b2 (f_X11_play h a1 x1) fun w2 h2 => match w2 with
  | .inl v => (jw_sl h2 x2 (0 : Int32) v.toInt64).bind fun h3 => some ((0 : Int32), h3)
  | .inr E => if E = "java/lang/IndexOutOfBoundsException" then some ((1 : Int32), h2) else if E = "java/lang/IllegalStateException" then some ((2 : Int32), h2) else none

set_option maxRecDepth 100000 in
set_option maxHeartbeats 4000000 in
theorem l_L_play {hi : jw_H} {h : jw_H} {x0 : Option Nat} {x1 : Int32} {x2 : Option Nat} {r : Int32} {h' : jw_H} (hq : f_L_play h x0 x1 x2 = some (r, h')) : jw_E 14 (yL_play.cls, cL_play, 4, false, some .int, some [(0, 9, 12, 24), (0, 9, 15, 15)], none) hi 0 [some (va_rf x0), some (.int x1), some (va_rf x2), none] [] h (.inl (some (.int r))) h' := by
  unfold f_L_play at hq
  refine jw_aload_n dL_play_0 (o := x2) rfl ?_
  refine jw_iconst dL_play_1 (v := (0 : Int32)) (by decide) ?_
  refine jw_aload_n dL_play_2 (o := x0) rfl ?_
  refine jw_iload_n dL_play_3 rfl ?_
  obtain ⟨a1, ea1, hq⟩ := Option.bind_eq_some_iff.mp hq
  obtain ⟨eo, et⟩ := jw_rc_spec ea1
  obtain ⟨w2, h2, ew, hq⟩ := jw_b2_spec hq
  cases w2 with
  | inl v =>
    refine jw_callV (As := [.int x1]) (S := [.int (0 : Int32), va_rf x2]) (a := a1) (v := some (.int v)) dL_play_4 mt_X11_play in_X11_play se_X11_play lk_L_26 (c_X11_play ew) et (by decide) rfl rfl (by decide) (by simp only [List.map_cons, List.map_nil, List.sum_cons, List.sum_nil, jw_cat_rf, jw_cat_i, jw_cat_l, jw_cat_a, jw_cat_s] <;> decide) (by cases eo; rfl) ?_
    refine jw_i2l dL_play_7 ?_
    obtain ⟨h3, e3, hq⟩ := Option.bind_eq_some_iff.mp hq
    refine jw_last (o := x2) dL_play_8 e3 ?_
    refine jw_goto (tgt := 18) dL_play_9 (by decide) ?_
    refine jw_iconst dL_play_18 (v := (0 : Int32)) (by decide) ?_
    cases hq
    exact jw_iret (ty := .int) dL_play_19 rfl rfl
  | inr E =>
    rcases jw_if hq with ⟨c, hq⟩ | ⟨c, hq⟩
    · subst c
      refine jw_callX (As := [.int x1]) (S := [.int (0 : Int32), va_rf x2]) (a := a1) (n2 := 3) (len := 1) (pre := []) (x := ⟨0, 9, 12, 24⟩) (suf := [⟨0, 9, 15, 15⟩]) (L' := [some (va_rf x0), some (.int x1), some (va_rf x2), none]) (name := "java/lang/IndexOutOfBoundsException") dL_play_4 mt_X11_play in_X11_play se_X11_play lk_L_26 (c_X11_play ew) et (by decide) rfl rfl (by decide) (by simp only [List.map_cons, List.map_nil, List.sum_cons, List.sum_nil, jw_cat_rf, jw_cat_i, jw_cat_l, jw_cat_a, jw_cat_s] <;> decide) (by cases eo; rfl) (tb := [(0, 9, 12, 24), (0, 9, 15, 15)]) rfl rfl (fun z hz => nomatch hz) rfl (by decide) cl_L_24 ca_IndexOutOfBoundsException (Or.inl ⟨3, rfl, rfl, dL_play_12⟩) (Nat.le_of_ble_eq_true rfl) ((congrArg (fun q => q.set 3 none) (jw_clr_of (j := 2) jw_long_rf)).trans rfl) ?_
      refine jw_iconst dL_play_13 (v := (1 : Int32)) (by decide) ?_
      cases hq
      exact jw_iret (ty := .int) dL_play_14 rfl rfl
    · skip
      rcases jw_if hq with ⟨c, hq⟩ | ⟨c, hq⟩
      · subst c
        refine jw_callX (As := [.int x1]) (S := [.int (0 : Int32), va_rf x2]) (a := a1) (n2 := 3) (len := 1) (pre := [⟨0, 9, 12, 24⟩]) (x := ⟨0, 9, 15, 15⟩) (suf := []) (L' := [some (va_rf x0), some (.int x1), some (va_rf x2), none]) (name := "java/lang/IllegalStateException") dL_play_4 mt_X11_play in_X11_play se_X11_play lk_L_26 (c_X11_play ew) et (by decide) rfl rfl (by decide) (by simp only [List.map_cons, List.map_nil, List.sum_cons, List.sum_nil, jw_cat_rf, jw_cat_i, jw_cat_l, jw_cat_a, jw_cat_s] <;> decide) (by cases eo; rfl) (tb := [(0, 9, 12, 24), (0, 9, 15, 15)]) rfl rfl (fun z hz => by rw [List.mem_singleton] at hz; subst hz; exact Or.inr ⟨by decide, "java/lang/IndexOutOfBoundsException", cl_L_24, by decide⟩) rfl (by decide) cl_L_15 ca_IllegalStateException (Or.inl ⟨3, rfl, rfl, dL_play_15⟩) (Nat.le_of_ble_eq_true rfl) ((congrArg (fun q => q.set 3 none) (jw_clr_of (j := 2) jw_long_rf)).trans rfl) ?_
        refine jw_iconst dL_play_16 (v := (2 : Int32)) (by decide) ?_
        cases hq
        exact jw_iret (ty := .int) dL_play_17 rfl rfl
      · skip
        exact nomatch hq
theorem c_L_play {h : jw_H} {x0 : Option Nat} {x1 : Int32} {x2 : Option Nat} {r : Int32} {h' : jw_H} (hq : f_L_play h x0 x1 x2 = some (r, h')) : jw_Con (Cond.codeWith yL_play cL_play 4 (some .int) [(0, 9, 12, 24), (0, 9, 15, 15)]) yL_play 14 [va_rf x0, .int x1, va_rf x2] h (.inl (some (.int r))) h' :=
  jw_conW (by decide +kernel) (by simp [jw_ent, jw_sl0_nil, jw_sl0_int, jw_sl0_long, jw_sl0_ref, jw_sl0_rf, jw_sl0_scr, List.replicate]) (by simp [jw_sl0_nil, jw_sl0_int, jw_sl0_long, jw_sl0_ref, jw_sl0_rf, jw_sl0_scr]) (l_L_play hq)

noncomputable def f_L_stream (h : jw_H) (x0 : Option Nat) (x1 : Int32) (x2 : Option Nat) : Option (Int32 × jw_H) :=
 (jw_rc h 11 x0).bind fun a1 =>
 jw_b2 (f_X11_stream h a1 x1) fun w2 h2 => match w2 with
  | .inl v => (jw_sl h2 x2 (0 : Int32) v.toInt64).bind fun h3 => some ((0 : Int32), h3)
  | .inr E => if E = "java/lang/IndexOutOfBoundsException" then some ((1 : Int32), h2) else if E = "java/lang/IllegalStateException" then some ((2 : Int32), h2) else none

set_option maxRecDepth 100000 in
set_option maxHeartbeats 4000000 in
theorem l_L_stream {hi : jw_H} {h : jw_H} {x0 : Option Nat} {x1 : Int32} {x2 : Option Nat} {r : Int32} {h' : jw_H} (hq : f_L_stream h x0 x1 x2 = some (r, h')) : jw_E 14 (yL_stream.cls, cL_stream, 4, false, some .int, some [(0, 9, 12, 24), (0, 9, 15, 15)], none) hi 0 [some (va_rf x0), some (.int x1), some (va_rf x2), none] [] h (.inl (some (.int r))) h' := by
  unfold f_L_stream at hq
  refine jw_aload_n dL_stream_0 (o := x2) rfl ?_
  refine jw_iconst dL_stream_1 (v := (0 : Int32)) (by decide) ?_
  refine jw_aload_n dL_stream_2 (o := x0) rfl ?_
  refine jw_iload_n dL_stream_3 rfl ?_
  obtain ⟨a1, ea1, hq⟩ := Option.bind_eq_some_iff.mp hq
  obtain ⟨eo, et⟩ := jw_rc_spec ea1
  obtain ⟨w2, h2, ew, hq⟩ := jw_b2_spec hq
  cases w2 with
  | inl v =>
    refine jw_callV (As := [.int x1]) (S := [.int (0 : Int32), va_rf x2]) (a := a1) (v := some (.int v)) dL_stream_4 mt_X11_stream in_X11_stream se_X11_stream lk_L_29 (c_X11_stream ew) et (by decide) rfl rfl (by decide) (by simp only [List.map_cons, List.map_nil, List.sum_cons, List.sum_nil, jw_cat_rf, jw_cat_i, jw_cat_l, jw_cat_a, jw_cat_s] <;> decide) (by cases eo; rfl) ?_
    refine jw_i2l dL_stream_7 ?_
    obtain ⟨h3, e3, hq⟩ := Option.bind_eq_some_iff.mp hq
    refine jw_last (o := x2) dL_stream_8 e3 ?_
    refine jw_goto (tgt := 18) dL_stream_9 (by decide) ?_
    refine jw_iconst dL_stream_18 (v := (0 : Int32)) (by decide) ?_
    cases hq
    exact jw_iret (ty := .int) dL_stream_19 rfl rfl
  | inr E =>
    rcases jw_if hq with ⟨c, hq⟩ | ⟨c, hq⟩
    · subst c
      refine jw_callX (As := [.int x1]) (S := [.int (0 : Int32), va_rf x2]) (a := a1) (n2 := 3) (len := 1) (pre := []) (x := ⟨0, 9, 12, 24⟩) (suf := [⟨0, 9, 15, 15⟩]) (L' := [some (va_rf x0), some (.int x1), some (va_rf x2), none]) (name := "java/lang/IndexOutOfBoundsException") dL_stream_4 mt_X11_stream in_X11_stream se_X11_stream lk_L_29 (c_X11_stream ew) et (by decide) rfl rfl (by decide) (by simp only [List.map_cons, List.map_nil, List.sum_cons, List.sum_nil, jw_cat_rf, jw_cat_i, jw_cat_l, jw_cat_a, jw_cat_s] <;> decide) (by cases eo; rfl) (tb := [(0, 9, 12, 24), (0, 9, 15, 15)]) rfl rfl (fun z hz => nomatch hz) rfl (by decide) cl_L_24 ca_IndexOutOfBoundsException (Or.inl ⟨3, rfl, rfl, dL_stream_12⟩) (Nat.le_of_ble_eq_true rfl) ((congrArg (fun q => q.set 3 none) (jw_clr_of (j := 2) jw_long_rf)).trans rfl) ?_
      refine jw_iconst dL_stream_13 (v := (1 : Int32)) (by decide) ?_
      cases hq
      exact jw_iret (ty := .int) dL_stream_14 rfl rfl
    · skip
      rcases jw_if hq with ⟨c, hq⟩ | ⟨c, hq⟩
      · subst c
        refine jw_callX (As := [.int x1]) (S := [.int (0 : Int32), va_rf x2]) (a := a1) (n2 := 3) (len := 1) (pre := [⟨0, 9, 12, 24⟩]) (x := ⟨0, 9, 15, 15⟩) (suf := []) (L' := [some (va_rf x0), some (.int x1), some (va_rf x2), none]) (name := "java/lang/IllegalStateException") dL_stream_4 mt_X11_stream in_X11_stream se_X11_stream lk_L_29 (c_X11_stream ew) et (by decide) rfl rfl (by decide) (by simp only [List.map_cons, List.map_nil, List.sum_cons, List.sum_nil, jw_cat_rf, jw_cat_i, jw_cat_l, jw_cat_a, jw_cat_s] <;> decide) (by cases eo; rfl) (tb := [(0, 9, 12, 24), (0, 9, 15, 15)]) rfl rfl (fun z hz => by rw [List.mem_singleton] at hz; subst hz; exact Or.inr ⟨by decide, "java/lang/IndexOutOfBoundsException", cl_L_24, by decide⟩) rfl (by decide) cl_L_15 ca_IllegalStateException (Or.inl ⟨3, rfl, rfl, dL_stream_15⟩) (Nat.le_of_ble_eq_true rfl) ((congrArg (fun q => q.set 3 none) (jw_clr_of (j := 2) jw_long_rf)).trans rfl) ?_
        refine jw_iconst dL_stream_16 (v := (2 : Int32)) (by decide) ?_
        cases hq
        exact jw_iret (ty := .int) dL_stream_17 rfl rfl
      · skip
        exact nomatch hq
theorem c_L_stream {h : jw_H} {x0 : Option Nat} {x1 : Int32} {x2 : Option Nat} {r : Int32} {h' : jw_H} (hq : f_L_stream h x0 x1 x2 = some (r, h')) : jw_Con (Cond.codeWith yL_stream cL_stream 4 (some .int) [(0, 9, 12, 24), (0, 9, 15, 15)]) yL_stream 14 [va_rf x0, .int x1, va_rf x2] h (.inl (some (.int r))) h' :=
  jw_conW (by decide +kernel) (by simp [jw_ent, jw_sl0_nil, jw_sl0_int, jw_sl0_long, jw_sl0_ref, jw_sl0_rf, jw_sl0_scr, List.replicate]) (by simp [jw_sl0_nil, jw_sl0_int, jw_sl0_long, jw_sl0_ref, jw_sl0_rf, jw_sl0_scr]) (l_L_stream hq)

noncomputable def f_L_scriptLength (h : jw_H) (x0 : Option Nat) (x1 : Int32) (x2 : Option Nat) : Option (Int32 × jw_H) :=
 (jw_rc h 11 x0).bind fun a1 =>
 jw_b2 (f_X11_scriptLength h a1 x1) fun w2 h2 => match w2 with
  | .inl v => (jw_sl h2 x2 (0 : Int32) v.toInt64).bind fun h3 => some ((0 : Int32), h3)
  | .inr E => if E = "java/lang/IndexOutOfBoundsException" then some ((1 : Int32), h2) else none

set_option maxRecDepth 100000 in
set_option maxHeartbeats 4000000 in
theorem l_L_scriptLength {hi : jw_H} {h : jw_H} {x0 : Option Nat} {x1 : Int32} {x2 : Option Nat} {r : Int32} {h' : jw_H} (hq : f_L_scriptLength h x0 x1 x2 = some (r, h')) : jw_E 9 (yL_scriptLength.cls, cL_scriptLength, 4, false, some .int, some [(0, 9, 12, 24)], none) hi 0 [some (va_rf x0), some (.int x1), some (va_rf x2), none] [] h (.inl (some (.int r))) h' := by
  unfold f_L_scriptLength at hq
  refine jw_aload_n dL_scriptLength_0 (o := x2) rfl ?_
  refine jw_iconst dL_scriptLength_1 (v := (0 : Int32)) (by decide) ?_
  refine jw_aload_n dL_scriptLength_2 (o := x0) rfl ?_
  refine jw_iload_n dL_scriptLength_3 rfl ?_
  obtain ⟨a1, ea1, hq⟩ := Option.bind_eq_some_iff.mp hq
  obtain ⟨eo, et⟩ := jw_rc_spec ea1
  obtain ⟨w2, h2, ew, hq⟩ := jw_b2_spec hq
  cases w2 with
  | inl v =>
    refine jw_callV (As := [.int x1]) (S := [.int (0 : Int32), va_rf x2]) (a := a1) (v := some (.int v)) dL_scriptLength_4 mt_X11_scriptLength in_X11_scriptLength se_X11_scriptLength lk_L_32 (c_X11_scriptLength ew) et (by decide) rfl rfl (by decide) (by simp only [List.map_cons, List.map_nil, List.sum_cons, List.sum_nil, jw_cat_rf, jw_cat_i, jw_cat_l, jw_cat_a, jw_cat_s] <;> decide) (by cases eo; rfl) ?_
    refine jw_i2l dL_scriptLength_7 ?_
    obtain ⟨h3, e3, hq⟩ := Option.bind_eq_some_iff.mp hq
    refine jw_last (o := x2) dL_scriptLength_8 e3 ?_
    refine jw_goto (tgt := 15) dL_scriptLength_9 (by decide) ?_
    refine jw_iconst dL_scriptLength_15 (v := (0 : Int32)) (by decide) ?_
    cases hq
    exact jw_iret (ty := .int) dL_scriptLength_16 rfl rfl
  | inr E =>
    rcases jw_if hq with ⟨c, hq⟩ | ⟨c, hq⟩
    · subst c
      refine jw_callX (As := [.int x1]) (S := [.int (0 : Int32), va_rf x2]) (a := a1) (n2 := 3) (len := 1) (pre := []) (x := ⟨0, 9, 12, 24⟩) (suf := []) (L' := [some (va_rf x0), some (.int x1), some (va_rf x2), none]) (name := "java/lang/IndexOutOfBoundsException") dL_scriptLength_4 mt_X11_scriptLength in_X11_scriptLength se_X11_scriptLength lk_L_32 (c_X11_scriptLength ew) et (by decide) rfl rfl (by decide) (by simp only [List.map_cons, List.map_nil, List.sum_cons, List.sum_nil, jw_cat_rf, jw_cat_i, jw_cat_l, jw_cat_a, jw_cat_s] <;> decide) (by cases eo; rfl) (tb := [(0, 9, 12, 24)]) rfl rfl (fun z hz => nomatch hz) rfl (by decide) cl_L_24 ca_IndexOutOfBoundsException (Or.inl ⟨3, rfl, rfl, dL_scriptLength_12⟩) (Nat.le_of_ble_eq_true rfl) ((congrArg (fun q => q.set 3 none) (jw_clr_of (j := 2) jw_long_rf)).trans rfl) ?_
      refine jw_iconst dL_scriptLength_13 (v := (1 : Int32)) (by decide) ?_
      cases hq
      exact jw_iret (ty := .int) dL_scriptLength_14 rfl rfl
    · skip
      exact nomatch hq
theorem c_L_scriptLength {h : jw_H} {x0 : Option Nat} {x1 : Int32} {x2 : Option Nat} {r : Int32} {h' : jw_H} (hq : f_L_scriptLength h x0 x1 x2 = some (r, h')) : jw_Con (Cond.codeWith yL_scriptLength cL_scriptLength 4 (some .int) [(0, 9, 12, 24)]) yL_scriptLength 9 [va_rf x0, .int x1, va_rf x2] h (.inl (some (.int r))) h' :=
  jw_conW (by decide +kernel) (by simp [jw_ent, jw_sl0_nil, jw_sl0_int, jw_sl0_long, jw_sl0_ref, jw_sl0_rf, jw_sl0_scr, List.replicate]) (by simp [jw_sl0_nil, jw_sl0_int, jw_sl0_long, jw_sl0_ref, jw_sl0_rf, jw_sl0_scr]) (l_L_scriptLength hq)

noncomputable def f_L_scriptAt (h : jw_H) (x0 : Option Nat) (x1 : Int32) (x2 : Int32) (x3 : Option Nat) : Option (Int32 × jw_H) :=
 (jw_rc h 11 x0).bind fun a1 =>
 jw_b2 (f_X11_scriptAt h a1 x1 x2) fun w2 h2 => match w2 with
  | .inl v => (jw_sl h2 x3 (0 : Int32) v.toInt64).bind fun h3 => some ((0 : Int32), h3)
  | .inr E => if E = "java/lang/IndexOutOfBoundsException" then some ((1 : Int32), h2) else none

set_option maxRecDepth 100000 in
set_option maxHeartbeats 4000000 in
theorem l_L_scriptAt {hi : jw_H} {h : jw_H} {x0 : Option Nat} {x1 : Int32} {x2 : Int32} {x3 : Option Nat} {r : Int32} {h' : jw_H} (hq : f_L_scriptAt h x0 x1 x2 x3 = some (r, h')) : jw_E 9 (yL_scriptAt.cls, cL_scriptAt, 5, false, some .int, some [(0, 10, 13, 24)], none) hi 0 [some (va_rf x0), some (.int x1), some (.int x2), some (va_rf x3), none] [] h (.inl (some (.int r))) h' := by
  unfold f_L_scriptAt at hq
  refine jw_aload_n dL_scriptAt_0 (o := x3) rfl ?_
  refine jw_iconst dL_scriptAt_1 (v := (0 : Int32)) (by decide) ?_
  refine jw_aload_n dL_scriptAt_2 (o := x0) rfl ?_
  refine jw_iload_n dL_scriptAt_3 rfl ?_
  refine jw_iload_n dL_scriptAt_4 rfl ?_
  obtain ⟨a1, ea1, hq⟩ := Option.bind_eq_some_iff.mp hq
  obtain ⟨eo, et⟩ := jw_rc_spec ea1
  obtain ⟨w2, h2, ew, hq⟩ := jw_b2_spec hq
  cases w2 with
  | inl v =>
    refine jw_callV (As := [.int x1, .int x2]) (S := [.int (0 : Int32), va_rf x3]) (a := a1) (v := some (.int v)) dL_scriptAt_5 mt_X11_scriptAt in_X11_scriptAt se_X11_scriptAt lk_L_35 (c_X11_scriptAt ew) et (by decide) rfl rfl (by decide) (by simp only [List.map_cons, List.map_nil, List.sum_cons, List.sum_nil, jw_cat_rf, jw_cat_i, jw_cat_l, jw_cat_a, jw_cat_s] <;> decide) (by cases eo; rfl) ?_
    refine jw_i2l dL_scriptAt_8 ?_
    obtain ⟨h3, e3, hq⟩ := Option.bind_eq_some_iff.mp hq
    refine jw_last (o := x3) dL_scriptAt_9 e3 ?_
    refine jw_goto (tgt := 17) dL_scriptAt_10 (by decide) ?_
    refine jw_iconst dL_scriptAt_17 (v := (0 : Int32)) (by decide) ?_
    cases hq
    exact jw_iret (ty := .int) dL_scriptAt_18 rfl rfl
  | inr E =>
    rcases jw_if hq with ⟨c, hq⟩ | ⟨c, hq⟩
    · subst c
      refine jw_callX (As := [.int x1, .int x2]) (S := [.int (0 : Int32), va_rf x3]) (a := a1) (n2 := 4) (len := 2) (pre := []) (x := ⟨0, 10, 13, 24⟩) (suf := []) (L' := [some (va_rf x0), some (.int x1), some (.int x2), some (va_rf x3), none]) (name := "java/lang/IndexOutOfBoundsException") dL_scriptAt_5 mt_X11_scriptAt in_X11_scriptAt se_X11_scriptAt lk_L_35 (c_X11_scriptAt ew) et (by decide) rfl rfl (by decide) (by simp only [List.map_cons, List.map_nil, List.sum_cons, List.sum_nil, jw_cat_rf, jw_cat_i, jw_cat_l, jw_cat_a, jw_cat_s] <;> decide) (by cases eo; rfl) (tb := [(0, 10, 13, 24)]) rfl rfl (fun z hz => nomatch hz) rfl (by decide) cl_L_24 ca_IndexOutOfBoundsException (Or.inr ⟨rfl, dL_scriptAt_13⟩) (Nat.le_of_ble_eq_true rfl) ((congrArg (fun q => q.set 4 none) (jw_clr_of (j := 3) jw_long_rf)).trans rfl) ?_
      refine jw_iconst dL_scriptAt_15 (v := (1 : Int32)) (by decide) ?_
      cases hq
      exact jw_iret (ty := .int) dL_scriptAt_16 rfl rfl
    · skip
      exact nomatch hq
theorem c_L_scriptAt {h : jw_H} {x0 : Option Nat} {x1 : Int32} {x2 : Int32} {x3 : Option Nat} {r : Int32} {h' : jw_H} (hq : f_L_scriptAt h x0 x1 x2 x3 = some (r, h')) : jw_Con (Cond.codeWith yL_scriptAt cL_scriptAt 5 (some .int) [(0, 10, 13, 24)]) yL_scriptAt 9 [va_rf x0, .int x1, .int x2, va_rf x3] h (.inl (some (.int r))) h' :=
  jw_conW (by decide +kernel) (by simp [jw_ent, jw_sl0_nil, jw_sl0_int, jw_sl0_long, jw_sl0_ref, jw_sl0_rf, jw_sl0_scr, List.replicate]) (by simp [jw_sl0_nil, jw_sl0_int, jw_sl0_long, jw_sl0_ref, jw_sl0_rf, jw_sl0_scr]) (l_L_scriptAt hq)

noncomputable def f_L_undo (h : jw_H) (x0 : Option Nat) (x1 : Option Nat) : Option (Int32 × jw_H) :=
 (jw_rc h 11 x0).bind fun a1 =>
 jw_b2 (f_X11_undo h a1 ) fun w2 h2 => match w2 with
  | .inl v => (jw_sl h2 x1 (0 : Int32) v.toInt64).bind fun h3 => some ((0 : Int32), h3)
  | .inr E => if E = "java/lang/IllegalStateException" then some ((1 : Int32), h2) else none

set_option maxRecDepth 100000 in
set_option maxHeartbeats 4000000 in
theorem l_L_undo {hi : jw_H} {h : jw_H} {x0 : Option Nat} {x1 : Option Nat} {r : Int32} {h' : jw_H} (hq : f_L_undo h x0 x1 = some (r, h')) : jw_E 9 (yL_undo.cls, cL_undo, 3, false, some .int, some [(0, 8, 11, 15)], none) hi 0 [some (va_rf x0), some (va_rf x1), none] [] h (.inl (some (.int r))) h' := by
  unfold f_L_undo at hq
  refine jw_aload_n dL_undo_0 (o := x1) rfl ?_
  refine jw_iconst dL_undo_1 (v := (0 : Int32)) (by decide) ?_
  refine jw_aload_n dL_undo_2 (o := x0) rfl ?_
  obtain ⟨a1, ea1, hq⟩ := Option.bind_eq_some_iff.mp hq
  obtain ⟨eo, et⟩ := jw_rc_spec ea1
  obtain ⟨w2, h2, ew, hq⟩ := jw_b2_spec hq
  cases w2 with
  | inl v =>
    refine jw_callV (As := []) (S := [.int (0 : Int32), va_rf x1]) (a := a1) (v := some (.int v)) dL_undo_3 mt_X11_undo in_X11_undo se_X11_undo lk_L_39 (c_X11_undo ew) et (by decide) rfl rfl (by decide) (by simp only [List.map_cons, List.map_nil, List.sum_cons, List.sum_nil, jw_cat_rf, jw_cat_i, jw_cat_l, jw_cat_a, jw_cat_s] <;> decide) (by cases eo; rfl) ?_
    refine jw_i2l dL_undo_6 ?_
    obtain ⟨h3, e3, hq⟩ := Option.bind_eq_some_iff.mp hq
    refine jw_last (o := x1) dL_undo_7 e3 ?_
    refine jw_goto (tgt := 14) dL_undo_8 (by decide) ?_
    refine jw_iconst dL_undo_14 (v := (0 : Int32)) (by decide) ?_
    cases hq
    exact jw_iret (ty := .int) dL_undo_15 rfl rfl
  | inr E =>
    rcases jw_if hq with ⟨c, hq⟩ | ⟨c, hq⟩
    · subst c
      refine jw_callX (As := []) (S := [.int (0 : Int32), va_rf x1]) (a := a1) (n2 := 2) (len := 1) (pre := []) (x := ⟨0, 8, 11, 15⟩) (suf := []) (L' := [some (va_rf x0), some (va_rf x1), none]) (name := "java/lang/IllegalStateException") dL_undo_3 mt_X11_undo in_X11_undo se_X11_undo lk_L_39 (c_X11_undo ew) et (by decide) rfl rfl (by decide) (by simp only [List.map_cons, List.map_nil, List.sum_cons, List.sum_nil, jw_cat_rf, jw_cat_i, jw_cat_l, jw_cat_a, jw_cat_s] <;> decide) (by cases eo; rfl) (tb := [(0, 8, 11, 15)]) rfl rfl (fun z hz => nomatch hz) rfl (by decide) cl_L_15 ca_IllegalStateException (Or.inl ⟨2, rfl, rfl, dL_undo_11⟩) (Nat.le_of_ble_eq_true rfl) ((congrArg (fun q => q.set 2 none) (jw_clr_of (j := 1) jw_long_rf)).trans rfl) ?_
      refine jw_iconst dL_undo_12 (v := (1 : Int32)) (by decide) ?_
      cases hq
      exact jw_iret (ty := .int) dL_undo_13 rfl rfl
    · skip
      exact nomatch hq
theorem c_L_undo {h : jw_H} {x0 : Option Nat} {x1 : Option Nat} {r : Int32} {h' : jw_H} (hq : f_L_undo h x0 x1 = some (r, h')) : jw_Con (Cond.codeWith yL_undo cL_undo 3 (some .int) [(0, 8, 11, 15)]) yL_undo 9 [va_rf x0, va_rf x1] h (.inl (some (.int r))) h' :=
  jw_conW (by decide +kernel) (by simp [jw_ent, jw_sl0_nil, jw_sl0_int, jw_sl0_long, jw_sl0_ref, jw_sl0_rf, jw_sl0_scr, List.replicate]) (by simp [jw_sl0_nil, jw_sl0_int, jw_sl0_long, jw_sl0_ref, jw_sl0_rf, jw_sl0_scr]) (l_L_undo hq)

noncomputable def f_L_undoRun (h : jw_H) (x0 : Option Nat) (x1 : Option Nat) : Option (Int32 × jw_H) :=
 (jw_rc h 11 x0).bind fun a1 =>
 jw_b2 (f_X11_undoRun h a1 ) fun w2 h2 => match w2 with
  | .inl v => (jw_sl h2 x1 (0 : Int32) v.toInt64).bind fun h3 => some ((0 : Int32), h3)
  | .inr E => if E = "java/lang/IllegalStateException" then some ((1 : Int32), h2) else none

set_option maxRecDepth 100000 in
set_option maxHeartbeats 4000000 in
theorem l_L_undoRun {hi : jw_H} {h : jw_H} {x0 : Option Nat} {x1 : Option Nat} {r : Int32} {h' : jw_H} (hq : f_L_undoRun h x0 x1 = some (r, h')) : jw_E 9 (yL_undoRun.cls, cL_undoRun, 3, false, some .int, some [(0, 8, 11, 15)], none) hi 0 [some (va_rf x0), some (va_rf x1), none] [] h (.inl (some (.int r))) h' := by
  unfold f_L_undoRun at hq
  refine jw_aload_n dL_undoRun_0 (o := x1) rfl ?_
  refine jw_iconst dL_undoRun_1 (v := (0 : Int32)) (by decide) ?_
  refine jw_aload_n dL_undoRun_2 (o := x0) rfl ?_
  obtain ⟨a1, ea1, hq⟩ := Option.bind_eq_some_iff.mp hq
  obtain ⟨eo, et⟩ := jw_rc_spec ea1
  obtain ⟨w2, h2, ew, hq⟩ := jw_b2_spec hq
  cases w2 with
  | inl v =>
    refine jw_callV (As := []) (S := [.int (0 : Int32), va_rf x1]) (a := a1) (v := some (.int v)) dL_undoRun_3 mt_X11_undoRun in_X11_undoRun se_X11_undoRun lk_L_42 (c_X11_undoRun ew) et (by decide) rfl rfl (by decide) (by simp only [List.map_cons, List.map_nil, List.sum_cons, List.sum_nil, jw_cat_rf, jw_cat_i, jw_cat_l, jw_cat_a, jw_cat_s] <;> decide) (by cases eo; rfl) ?_
    refine jw_i2l dL_undoRun_6 ?_
    obtain ⟨h3, e3, hq⟩ := Option.bind_eq_some_iff.mp hq
    refine jw_last (o := x1) dL_undoRun_7 e3 ?_
    refine jw_goto (tgt := 14) dL_undoRun_8 (by decide) ?_
    refine jw_iconst dL_undoRun_14 (v := (0 : Int32)) (by decide) ?_
    cases hq
    exact jw_iret (ty := .int) dL_undoRun_15 rfl rfl
  | inr E =>
    rcases jw_if hq with ⟨c, hq⟩ | ⟨c, hq⟩
    · subst c
      refine jw_callX (As := []) (S := [.int (0 : Int32), va_rf x1]) (a := a1) (n2 := 2) (len := 1) (pre := []) (x := ⟨0, 8, 11, 15⟩) (suf := []) (L' := [some (va_rf x0), some (va_rf x1), none]) (name := "java/lang/IllegalStateException") dL_undoRun_3 mt_X11_undoRun in_X11_undoRun se_X11_undoRun lk_L_42 (c_X11_undoRun ew) et (by decide) rfl rfl (by decide) (by simp only [List.map_cons, List.map_nil, List.sum_cons, List.sum_nil, jw_cat_rf, jw_cat_i, jw_cat_l, jw_cat_a, jw_cat_s] <;> decide) (by cases eo; rfl) (tb := [(0, 8, 11, 15)]) rfl rfl (fun z hz => nomatch hz) rfl (by decide) cl_L_15 ca_IllegalStateException (Or.inl ⟨2, rfl, rfl, dL_undoRun_11⟩) (Nat.le_of_ble_eq_true rfl) ((congrArg (fun q => q.set 2 none) (jw_clr_of (j := 1) jw_long_rf)).trans rfl) ?_
      refine jw_iconst dL_undoRun_12 (v := (1 : Int32)) (by decide) ?_
      cases hq
      exact jw_iret (ty := .int) dL_undoRun_13 rfl rfl
    · skip
      exact nomatch hq
theorem c_L_undoRun {h : jw_H} {x0 : Option Nat} {x1 : Option Nat} {r : Int32} {h' : jw_H} (hq : f_L_undoRun h x0 x1 = some (r, h')) : jw_Con (Cond.codeWith yL_undoRun cL_undoRun 3 (some .int) [(0, 8, 11, 15)]) yL_undoRun 9 [va_rf x0, va_rf x1] h (.inl (some (.int r))) h' :=
  jw_conW (by decide +kernel) (by simp [jw_ent, jw_sl0_nil, jw_sl0_int, jw_sl0_long, jw_sl0_ref, jw_sl0_rf, jw_sl0_scr, List.replicate]) (by simp [jw_sl0_nil, jw_sl0_int, jw_sl0_long, jw_sl0_ref, jw_sl0_rf, jw_sl0_scr]) (l_L_undoRun hq)

noncomputable def f_L_length (h : jw_H) (x0 : Option Nat) (x1 : Int32) (x2 : Option Nat) : Option (Int32 × jw_H) :=
 (jw_rc h 11 x0).bind fun a1 =>
 jw_b2 (f_X11_length h a1 x1) fun w2 h2 => match w2 with
  | .inl v => (jw_sl h2 x2 (0 : Int32) v.toInt64).bind fun h3 => some ((0 : Int32), h3)
  | .inr E => if E = "java/lang/IndexOutOfBoundsException" then some ((1 : Int32), h2) else none

set_option maxRecDepth 100000 in
set_option maxHeartbeats 4000000 in
theorem l_L_length {hi : jw_H} {h : jw_H} {x0 : Option Nat} {x1 : Int32} {x2 : Option Nat} {r : Int32} {h' : jw_H} (hq : f_L_length h x0 x1 x2 = some (r, h')) : jw_E 9 (yL_length.cls, cL_length, 4, false, some .int, some [(0, 9, 12, 24)], none) hi 0 [some (va_rf x0), some (.int x1), some (va_rf x2), none] [] h (.inl (some (.int r))) h' := by
  unfold f_L_length at hq
  refine jw_aload_n dL_length_0 (o := x2) rfl ?_
  refine jw_iconst dL_length_1 (v := (0 : Int32)) (by decide) ?_
  refine jw_aload_n dL_length_2 (o := x0) rfl ?_
  refine jw_iload_n dL_length_3 rfl ?_
  obtain ⟨a1, ea1, hq⟩ := Option.bind_eq_some_iff.mp hq
  obtain ⟨eo, et⟩ := jw_rc_spec ea1
  obtain ⟨w2, h2, ew, hq⟩ := jw_b2_spec hq
  cases w2 with
  | inl v =>
    refine jw_callV (As := [.int x1]) (S := [.int (0 : Int32), va_rf x2]) (a := a1) (v := some (.int v)) dL_length_4 mt_X11_length in_X11_length se_X11_length lk_L_45 (c_X11_length ew) et (by decide) rfl rfl (by decide) (by simp only [List.map_cons, List.map_nil, List.sum_cons, List.sum_nil, jw_cat_rf, jw_cat_i, jw_cat_l, jw_cat_a, jw_cat_s] <;> decide) (by cases eo; rfl) ?_
    refine jw_i2l dL_length_7 ?_
    obtain ⟨h3, e3, hq⟩ := Option.bind_eq_some_iff.mp hq
    refine jw_last (o := x2) dL_length_8 e3 ?_
    refine jw_goto (tgt := 15) dL_length_9 (by decide) ?_
    refine jw_iconst dL_length_15 (v := (0 : Int32)) (by decide) ?_
    cases hq
    exact jw_iret (ty := .int) dL_length_16 rfl rfl
  | inr E =>
    rcases jw_if hq with ⟨c, hq⟩ | ⟨c, hq⟩
    · subst c
      refine jw_callX (As := [.int x1]) (S := [.int (0 : Int32), va_rf x2]) (a := a1) (n2 := 3) (len := 1) (pre := []) (x := ⟨0, 9, 12, 24⟩) (suf := []) (L' := [some (va_rf x0), some (.int x1), some (va_rf x2), none]) (name := "java/lang/IndexOutOfBoundsException") dL_length_4 mt_X11_length in_X11_length se_X11_length lk_L_45 (c_X11_length ew) et (by decide) rfl rfl (by decide) (by simp only [List.map_cons, List.map_nil, List.sum_cons, List.sum_nil, jw_cat_rf, jw_cat_i, jw_cat_l, jw_cat_a, jw_cat_s] <;> decide) (by cases eo; rfl) (tb := [(0, 9, 12, 24)]) rfl rfl (fun z hz => nomatch hz) rfl (by decide) cl_L_24 ca_IndexOutOfBoundsException (Or.inl ⟨3, rfl, rfl, dL_length_12⟩) (Nat.le_of_ble_eq_true rfl) ((congrArg (fun q => q.set 3 none) (jw_clr_of (j := 2) jw_long_rf)).trans rfl) ?_
      refine jw_iconst dL_length_13 (v := (1 : Int32)) (by decide) ?_
      cases hq
      exact jw_iret (ty := .int) dL_length_14 rfl rfl
    · skip
      exact nomatch hq
theorem c_L_length {h : jw_H} {x0 : Option Nat} {x1 : Int32} {x2 : Option Nat} {r : Int32} {h' : jw_H} (hq : f_L_length h x0 x1 x2 = some (r, h')) : jw_Con (Cond.codeWith yL_length cL_length 4 (some .int) [(0, 9, 12, 24)]) yL_length 9 [va_rf x0, .int x1, va_rf x2] h (.inl (some (.int r))) h' :=
  jw_conW (by decide +kernel) (by simp [jw_ent, jw_sl0_nil, jw_sl0_int, jw_sl0_long, jw_sl0_ref, jw_sl0_rf, jw_sl0_scr, List.replicate]) (by simp [jw_sl0_nil, jw_sl0_int, jw_sl0_long, jw_sl0_ref, jw_sl0_rf, jw_sl0_scr]) (l_L_length hq)

noncomputable def f_L_at (h : jw_H) (x0 : Option Nat) (x1 : Int32) (x2 : Int32) (x3 : Option Nat) : Option (Int32 × jw_H) :=
 (jw_rc h 11 x0).bind fun a1 =>
 jw_b2 (f_X11_at h a1 x1 x2) fun w2 h2 => match w2 with
  | .inl v => (jw_sl h2 x3 (0 : Int32) v.toInt64).bind fun h3 => some ((0 : Int32), h3)
  | .inr E => if E = "java/lang/IndexOutOfBoundsException" then some ((1 : Int32), h2) else none

set_option maxRecDepth 100000 in
set_option maxHeartbeats 4000000 in
theorem l_L_at {hi : jw_H} {h : jw_H} {x0 : Option Nat} {x1 : Int32} {x2 : Int32} {x3 : Option Nat} {r : Int32} {h' : jw_H} (hq : f_L_at h x0 x1 x2 x3 = some (r, h')) : jw_E 9 (yL_at.cls, cL_at, 5, false, some .int, some [(0, 10, 13, 24)], none) hi 0 [some (va_rf x0), some (.int x1), some (.int x2), some (va_rf x3), none] [] h (.inl (some (.int r))) h' := by
  unfold f_L_at at hq
  refine jw_aload_n dL_at_0 (o := x3) rfl ?_
  refine jw_iconst dL_at_1 (v := (0 : Int32)) (by decide) ?_
  refine jw_aload_n dL_at_2 (o := x0) rfl ?_
  refine jw_iload_n dL_at_3 rfl ?_
  refine jw_iload_n dL_at_4 rfl ?_
  obtain ⟨a1, ea1, hq⟩ := Option.bind_eq_some_iff.mp hq
  obtain ⟨eo, et⟩ := jw_rc_spec ea1
  obtain ⟨w2, h2, ew, hq⟩ := jw_b2_spec hq
  cases w2 with
  | inl v =>
    refine jw_callV (As := [.int x1, .int x2]) (S := [.int (0 : Int32), va_rf x3]) (a := a1) (v := some (.int v)) dL_at_5 mt_X11_at in_X11_at se_X11_at lk_L_48 (c_X11_at ew) et (by decide) rfl rfl (by decide) (by simp only [List.map_cons, List.map_nil, List.sum_cons, List.sum_nil, jw_cat_rf, jw_cat_i, jw_cat_l, jw_cat_a, jw_cat_s] <;> decide) (by cases eo; rfl) ?_
    refine jw_i2l dL_at_8 ?_
    obtain ⟨h3, e3, hq⟩ := Option.bind_eq_some_iff.mp hq
    refine jw_last (o := x3) dL_at_9 e3 ?_
    refine jw_goto (tgt := 17) dL_at_10 (by decide) ?_
    refine jw_iconst dL_at_17 (v := (0 : Int32)) (by decide) ?_
    cases hq
    exact jw_iret (ty := .int) dL_at_18 rfl rfl
  | inr E =>
    rcases jw_if hq with ⟨c, hq⟩ | ⟨c, hq⟩
    · subst c
      refine jw_callX (As := [.int x1, .int x2]) (S := [.int (0 : Int32), va_rf x3]) (a := a1) (n2 := 4) (len := 2) (pre := []) (x := ⟨0, 10, 13, 24⟩) (suf := []) (L' := [some (va_rf x0), some (.int x1), some (.int x2), some (va_rf x3), none]) (name := "java/lang/IndexOutOfBoundsException") dL_at_5 mt_X11_at in_X11_at se_X11_at lk_L_48 (c_X11_at ew) et (by decide) rfl rfl (by decide) (by simp only [List.map_cons, List.map_nil, List.sum_cons, List.sum_nil, jw_cat_rf, jw_cat_i, jw_cat_l, jw_cat_a, jw_cat_s] <;> decide) (by cases eo; rfl) (tb := [(0, 10, 13, 24)]) rfl rfl (fun z hz => nomatch hz) rfl (by decide) cl_L_24 ca_IndexOutOfBoundsException (Or.inr ⟨rfl, dL_at_13⟩) (Nat.le_of_ble_eq_true rfl) ((congrArg (fun q => q.set 4 none) (jw_clr_of (j := 3) jw_long_rf)).trans rfl) ?_
      refine jw_iconst dL_at_15 (v := (1 : Int32)) (by decide) ?_
      cases hq
      exact jw_iret (ty := .int) dL_at_16 rfl rfl
    · skip
      exact nomatch hq
theorem c_L_at {h : jw_H} {x0 : Option Nat} {x1 : Int32} {x2 : Int32} {x3 : Option Nat} {r : Int32} {h' : jw_H} (hq : f_L_at h x0 x1 x2 x3 = some (r, h')) : jw_Con (Cond.codeWith yL_at cL_at 5 (some .int) [(0, 10, 13, 24)]) yL_at 9 [va_rf x0, .int x1, .int x2, va_rf x3] h (.inl (some (.int r))) h' :=
  jw_conW (by decide +kernel) (by simp [jw_ent, jw_sl0_nil, jw_sl0_int, jw_sl0_long, jw_sl0_ref, jw_sl0_rf, jw_sl0_scr, List.replicate]) (by simp [jw_sl0_nil, jw_sl0_int, jw_sl0_long, jw_sl0_ref, jw_sl0_rf, jw_sl0_scr]) (l_L_at hq)

noncomputable def f_L_id (h : jw_H) (x0 : Option Nat) (x1 : Int32) (x2 : Option Nat) : Option (Int32 × jw_H) :=
 (jw_rc h 11 x0).bind fun a1 =>
 jw_b2 (f_X11_id h a1 x1) fun w2 h2 => match w2 with
  | .inl v => (jw_sl h2 x2 (0 : Int32) v.toInt64).bind fun h3 => some ((0 : Int32), h3)
  | .inr E => if E = "java/lang/IndexOutOfBoundsException" then some ((1 : Int32), h2) else none

set_option maxRecDepth 100000 in
set_option maxHeartbeats 4000000 in
theorem l_L_id {hi : jw_H} {h : jw_H} {x0 : Option Nat} {x1 : Int32} {x2 : Option Nat} {r : Int32} {h' : jw_H} (hq : f_L_id h x0 x1 x2 = some (r, h')) : jw_E 9 (yL_id.cls, cL_id, 4, false, some .int, some [(0, 9, 12, 24)], none) hi 0 [some (va_rf x0), some (.int x1), some (va_rf x2), none] [] h (.inl (some (.int r))) h' := by
  unfold f_L_id at hq
  refine jw_aload_n dL_id_0 (o := x2) rfl ?_
  refine jw_iconst dL_id_1 (v := (0 : Int32)) (by decide) ?_
  refine jw_aload_n dL_id_2 (o := x0) rfl ?_
  refine jw_iload_n dL_id_3 rfl ?_
  obtain ⟨a1, ea1, hq⟩ := Option.bind_eq_some_iff.mp hq
  obtain ⟨eo, et⟩ := jw_rc_spec ea1
  obtain ⟨w2, h2, ew, hq⟩ := jw_b2_spec hq
  cases w2 with
  | inl v =>
    refine jw_callV (As := [.int x1]) (S := [.int (0 : Int32), va_rf x2]) (a := a1) (v := some (.int v)) dL_id_4 mt_X11_id in_X11_id se_X11_id lk_L_51 (c_X11_id ew) et (by decide) rfl rfl (by decide) (by simp only [List.map_cons, List.map_nil, List.sum_cons, List.sum_nil, jw_cat_rf, jw_cat_i, jw_cat_l, jw_cat_a, jw_cat_s] <;> decide) (by cases eo; rfl) ?_
    refine jw_i2l dL_id_7 ?_
    obtain ⟨h3, e3, hq⟩ := Option.bind_eq_some_iff.mp hq
    refine jw_last (o := x2) dL_id_8 e3 ?_
    refine jw_goto (tgt := 15) dL_id_9 (by decide) ?_
    refine jw_iconst dL_id_15 (v := (0 : Int32)) (by decide) ?_
    cases hq
    exact jw_iret (ty := .int) dL_id_16 rfl rfl
  | inr E =>
    rcases jw_if hq with ⟨c, hq⟩ | ⟨c, hq⟩
    · subst c
      refine jw_callX (As := [.int x1]) (S := [.int (0 : Int32), va_rf x2]) (a := a1) (n2 := 3) (len := 1) (pre := []) (x := ⟨0, 9, 12, 24⟩) (suf := []) (L' := [some (va_rf x0), some (.int x1), some (va_rf x2), none]) (name := "java/lang/IndexOutOfBoundsException") dL_id_4 mt_X11_id in_X11_id se_X11_id lk_L_51 (c_X11_id ew) et (by decide) rfl rfl (by decide) (by simp only [List.map_cons, List.map_nil, List.sum_cons, List.sum_nil, jw_cat_rf, jw_cat_i, jw_cat_l, jw_cat_a, jw_cat_s] <;> decide) (by cases eo; rfl) (tb := [(0, 9, 12, 24)]) rfl rfl (fun z hz => nomatch hz) rfl (by decide) cl_L_24 ca_IndexOutOfBoundsException (Or.inl ⟨3, rfl, rfl, dL_id_12⟩) (Nat.le_of_ble_eq_true rfl) ((congrArg (fun q => q.set 3 none) (jw_clr_of (j := 2) jw_long_rf)).trans rfl) ?_
      refine jw_iconst dL_id_13 (v := (1 : Int32)) (by decide) ?_
      cases hq
      exact jw_iret (ty := .int) dL_id_14 rfl rfl
    · skip
      exact nomatch hq
theorem c_L_id {h : jw_H} {x0 : Option Nat} {x1 : Int32} {x2 : Option Nat} {r : Int32} {h' : jw_H} (hq : f_L_id h x0 x1 x2 = some (r, h')) : jw_Con (Cond.codeWith yL_id cL_id 4 (some .int) [(0, 9, 12, 24)]) yL_id 9 [va_rf x0, .int x1, va_rf x2] h (.inl (some (.int r))) h' :=
  jw_conW (by decide +kernel) (by simp [jw_ent, jw_sl0_nil, jw_sl0_int, jw_sl0_long, jw_sl0_ref, jw_sl0_rf, jw_sl0_scr, List.replicate]) (by simp [jw_sl0_nil, jw_sl0_int, jw_sl0_long, jw_sl0_ref, jw_sl0_rf, jw_sl0_scr]) (l_L_id hq)

noncomputable def f_L_mark (h : jw_H) (x0 : Option Nat) (x1 : Int32) (x2 : Option Nat) : Option (Int32 × jw_H) :=
 (jw_rc h 11 x0).bind fun a1 =>
 jw_b2 (f_X11_mark h a1 x1) fun w2 h2 => match w2 with
  | .inl v => (jw_sl h2 x2 (0 : Int32) v.toInt64).bind fun h3 => some ((0 : Int32), h3)
  | .inr E => if E = "java/lang/IndexOutOfBoundsException" then some ((1 : Int32), h2) else none

set_option maxRecDepth 100000 in
set_option maxHeartbeats 4000000 in
theorem l_L_mark {hi : jw_H} {h : jw_H} {x0 : Option Nat} {x1 : Int32} {x2 : Option Nat} {r : Int32} {h' : jw_H} (hq : f_L_mark h x0 x1 x2 = some (r, h')) : jw_E 9 (yL_mark.cls, cL_mark, 4, false, some .int, some [(0, 9, 12, 24)], none) hi 0 [some (va_rf x0), some (.int x1), some (va_rf x2), none] [] h (.inl (some (.int r))) h' := by
  unfold f_L_mark at hq
  refine jw_aload_n dL_mark_0 (o := x2) rfl ?_
  refine jw_iconst dL_mark_1 (v := (0 : Int32)) (by decide) ?_
  refine jw_aload_n dL_mark_2 (o := x0) rfl ?_
  refine jw_iload_n dL_mark_3 rfl ?_
  obtain ⟨a1, ea1, hq⟩ := Option.bind_eq_some_iff.mp hq
  obtain ⟨eo, et⟩ := jw_rc_spec ea1
  obtain ⟨w2, h2, ew, hq⟩ := jw_b2_spec hq
  cases w2 with
  | inl v =>
    refine jw_callV (As := [.int x1]) (S := [.int (0 : Int32), va_rf x2]) (a := a1) (v := some (.int v)) dL_mark_4 mt_X11_mark in_X11_mark se_X11_mark lk_L_54 (c_X11_mark ew) et (by decide) rfl rfl (by decide) (by simp only [List.map_cons, List.map_nil, List.sum_cons, List.sum_nil, jw_cat_rf, jw_cat_i, jw_cat_l, jw_cat_a, jw_cat_s] <;> decide) (by cases eo; rfl) ?_
    refine jw_i2l dL_mark_7 ?_
    obtain ⟨h3, e3, hq⟩ := Option.bind_eq_some_iff.mp hq
    refine jw_last (o := x2) dL_mark_8 e3 ?_
    refine jw_goto (tgt := 15) dL_mark_9 (by decide) ?_
    refine jw_iconst dL_mark_15 (v := (0 : Int32)) (by decide) ?_
    cases hq
    exact jw_iret (ty := .int) dL_mark_16 rfl rfl
  | inr E =>
    rcases jw_if hq with ⟨c, hq⟩ | ⟨c, hq⟩
    · subst c
      refine jw_callX (As := [.int x1]) (S := [.int (0 : Int32), va_rf x2]) (a := a1) (n2 := 3) (len := 1) (pre := []) (x := ⟨0, 9, 12, 24⟩) (suf := []) (L' := [some (va_rf x0), some (.int x1), some (va_rf x2), none]) (name := "java/lang/IndexOutOfBoundsException") dL_mark_4 mt_X11_mark in_X11_mark se_X11_mark lk_L_54 (c_X11_mark ew) et (by decide) rfl rfl (by decide) (by simp only [List.map_cons, List.map_nil, List.sum_cons, List.sum_nil, jw_cat_rf, jw_cat_i, jw_cat_l, jw_cat_a, jw_cat_s] <;> decide) (by cases eo; rfl) (tb := [(0, 9, 12, 24)]) rfl rfl (fun z hz => nomatch hz) rfl (by decide) cl_L_24 ca_IndexOutOfBoundsException (Or.inl ⟨3, rfl, rfl, dL_mark_12⟩) (Nat.le_of_ble_eq_true rfl) ((congrArg (fun q => q.set 3 none) (jw_clr_of (j := 2) jw_long_rf)).trans rfl) ?_
      refine jw_iconst dL_mark_13 (v := (1 : Int32)) (by decide) ?_
      cases hq
      exact jw_iret (ty := .int) dL_mark_14 rfl rfl
    · skip
      exact nomatch hq
theorem c_L_mark {h : jw_H} {x0 : Option Nat} {x1 : Int32} {x2 : Option Nat} {r : Int32} {h' : jw_H} (hq : f_L_mark h x0 x1 x2 = some (r, h')) : jw_Con (Cond.codeWith yL_mark cL_mark 4 (some .int) [(0, 9, 12, 24)]) yL_mark 9 [va_rf x0, .int x1, va_rf x2] h (.inl (some (.int r))) h' :=
  jw_conW (by decide +kernel) (by simp [jw_ent, jw_sl0_nil, jw_sl0_int, jw_sl0_long, jw_sl0_ref, jw_sl0_rf, jw_sl0_scr, List.replicate]) (by simp [jw_sl0_nil, jw_sl0_int, jw_sl0_long, jw_sl0_ref, jw_sl0_rf, jw_sl0_scr]) (l_L_mark hq)

noncomputable def f_L_sample (h : jw_H) (x0 : Option Nat) (x1 : Int32) (x2 : Int32) (x3 : Option Nat) : Option (Int32 × jw_H) :=
 (jw_rc h 11 x0).bind fun a1 =>
 jw_b2 (f_X11_sample h a1 x1 x2) fun w2 h2 => match w2 with
  | .inl v => (jw_sl h2 x3 (0 : Int32) v.toInt64).bind fun h3 => some ((0 : Int32), h3)
  | .inr E => if E = "java/lang/IllegalArgumentException" then some ((1 : Int32), h2) else if E = "java/lang/IllegalStateException" then some ((2 : Int32), h2) else none

set_option maxRecDepth 100000 in
set_option maxHeartbeats 4000000 in
theorem l_L_sample {hi : jw_H} {h : jw_H} {x0 : Option Nat} {x1 : Int32} {x2 : Int32} {x3 : Option Nat} {r : Int32} {h' : jw_H} (hq : f_L_sample h x0 x1 x2 x3 = some (r, h')) : jw_E 9 (yL_sample.cls, cL_sample, 5, false, some .int, some [(0, 10, 13, 13), (0, 10, 17, 15)], none) hi 0 [some (va_rf x0), some (.int x1), some (.int x2), some (va_rf x3), none] [] h (.inl (some (.int r))) h' := by
  unfold f_L_sample at hq
  refine jw_aload_n dL_sample_0 (o := x3) rfl ?_
  refine jw_iconst dL_sample_1 (v := (0 : Int32)) (by decide) ?_
  refine jw_aload_n dL_sample_2 (o := x0) rfl ?_
  refine jw_iload_n dL_sample_3 rfl ?_
  refine jw_iload_n dL_sample_4 rfl ?_
  obtain ⟨a1, ea1, hq⟩ := Option.bind_eq_some_iff.mp hq
  obtain ⟨eo, et⟩ := jw_rc_spec ea1
  obtain ⟨w2, h2, ew, hq⟩ := jw_b2_spec hq
  cases w2 with
  | inl v =>
    refine jw_callV (As := [.int x1, .int x2]) (S := [.int (0 : Int32), va_rf x3]) (a := a1) (v := some (.int v)) dL_sample_5 mt_X11_sample in_X11_sample se_X11_sample lk_L_57 (c_X11_sample ew) et (by decide) rfl rfl (by decide) (by simp only [List.map_cons, List.map_nil, List.sum_cons, List.sum_nil, jw_cat_rf, jw_cat_i, jw_cat_l, jw_cat_a, jw_cat_s] <;> decide) (by cases eo; rfl) ?_
    refine jw_i2l dL_sample_8 ?_
    obtain ⟨h3, e3, hq⟩ := Option.bind_eq_some_iff.mp hq
    refine jw_last (o := x3) dL_sample_9 e3 ?_
    refine jw_goto (tgt := 21) dL_sample_10 (by decide) ?_
    refine jw_iconst dL_sample_21 (v := (0 : Int32)) (by decide) ?_
    cases hq
    exact jw_iret (ty := .int) dL_sample_22 rfl rfl
  | inr E =>
    rcases jw_if hq with ⟨c, hq⟩ | ⟨c, hq⟩
    · subst c
      refine jw_callX (As := [.int x1, .int x2]) (S := [.int (0 : Int32), va_rf x3]) (a := a1) (n2 := 4) (len := 2) (pre := []) (x := ⟨0, 10, 13, 13⟩) (suf := [⟨0, 10, 17, 15⟩]) (L' := [some (va_rf x0), some (.int x1), some (.int x2), some (va_rf x3), none]) (name := "java/lang/IllegalArgumentException") dL_sample_5 mt_X11_sample in_X11_sample se_X11_sample lk_L_57 (c_X11_sample ew) et (by decide) rfl rfl (by decide) (by simp only [List.map_cons, List.map_nil, List.sum_cons, List.sum_nil, jw_cat_rf, jw_cat_i, jw_cat_l, jw_cat_a, jw_cat_s] <;> decide) (by cases eo; rfl) (tb := [(0, 10, 13, 13), (0, 10, 17, 15)]) rfl rfl (fun z hz => nomatch hz) rfl (by decide) cl_L_13 ca_IllegalArgumentException (Or.inr ⟨rfl, dL_sample_13⟩) (Nat.le_of_ble_eq_true rfl) ((congrArg (fun q => q.set 4 none) (jw_clr_of (j := 3) jw_long_rf)).trans rfl) ?_
      refine jw_iconst dL_sample_15 (v := (1 : Int32)) (by decide) ?_
      cases hq
      exact jw_iret (ty := .int) dL_sample_16 rfl rfl
    · skip
      rcases jw_if hq with ⟨c, hq⟩ | ⟨c, hq⟩
      · subst c
        refine jw_callX (As := [.int x1, .int x2]) (S := [.int (0 : Int32), va_rf x3]) (a := a1) (n2 := 4) (len := 2) (pre := [⟨0, 10, 13, 13⟩]) (x := ⟨0, 10, 17, 15⟩) (suf := []) (L' := [some (va_rf x0), some (.int x1), some (.int x2), some (va_rf x3), none]) (name := "java/lang/IllegalStateException") dL_sample_5 mt_X11_sample in_X11_sample se_X11_sample lk_L_57 (c_X11_sample ew) et (by decide) rfl rfl (by decide) (by simp only [List.map_cons, List.map_nil, List.sum_cons, List.sum_nil, jw_cat_rf, jw_cat_i, jw_cat_l, jw_cat_a, jw_cat_s] <;> decide) (by cases eo; rfl) (tb := [(0, 10, 13, 13), (0, 10, 17, 15)]) rfl rfl (fun z hz => by rw [List.mem_singleton] at hz; subst hz; exact Or.inr ⟨by decide, "java/lang/IllegalArgumentException", cl_L_13, by decide⟩) rfl (by decide) cl_L_15 ca_IllegalStateException (Or.inr ⟨rfl, dL_sample_17⟩) (Nat.le_of_ble_eq_true rfl) ((congrArg (fun q => q.set 4 none) (jw_clr_of (j := 3) jw_long_rf)).trans rfl) ?_
        refine jw_iconst dL_sample_19 (v := (2 : Int32)) (by decide) ?_
        cases hq
        exact jw_iret (ty := .int) dL_sample_20 rfl rfl
      · skip
        exact nomatch hq
theorem c_L_sample {h : jw_H} {x0 : Option Nat} {x1 : Int32} {x2 : Int32} {x3 : Option Nat} {r : Int32} {h' : jw_H} (hq : f_L_sample h x0 x1 x2 x3 = some (r, h')) : jw_Con (Cond.codeWith yL_sample cL_sample 5 (some .int) [(0, 10, 13, 13), (0, 10, 17, 15)]) yL_sample 9 [va_rf x0, .int x1, .int x2, va_rf x3] h (.inl (some (.int r))) h' :=
  jw_conW (by decide +kernel) (by simp [jw_ent, jw_sl0_nil, jw_sl0_int, jw_sl0_long, jw_sl0_ref, jw_sl0_rf, jw_sl0_scr, List.replicate]) (by simp [jw_sl0_nil, jw_sl0_int, jw_sl0_long, jw_sl0_ref, jw_sl0_rf, jw_sl0_scr]) (l_L_sample hq)

noncomputable def f_L_heldLength (h : jw_H) (x0 : Option Nat) (x1 : Int32) (x2 : Option Nat) : Option (Int32 × jw_H) :=
 (jw_rc h 11 x0).bind fun a1 =>
 jw_b2 (f_X11_heldLength h a1 x1) fun w2 h2 => match w2 with
  | .inl v => (jw_sl h2 x2 (0 : Int32) v.toInt64).bind fun h3 => some ((0 : Int32), h3)
  | .inr E => if E = "java/lang/IndexOutOfBoundsException" then some ((1 : Int32), h2) else none

set_option maxRecDepth 100000 in
set_option maxHeartbeats 4000000 in
theorem l_L_heldLength {hi : jw_H} {h : jw_H} {x0 : Option Nat} {x1 : Int32} {x2 : Option Nat} {r : Int32} {h' : jw_H} (hq : f_L_heldLength h x0 x1 x2 = some (r, h')) : jw_E 9 (yL_heldLength.cls, cL_heldLength, 4, false, some .int, some [(0, 9, 12, 24)], none) hi 0 [some (va_rf x0), some (.int x1), some (va_rf x2), none] [] h (.inl (some (.int r))) h' := by
  unfold f_L_heldLength at hq
  refine jw_aload_n dL_heldLength_0 (o := x2) rfl ?_
  refine jw_iconst dL_heldLength_1 (v := (0 : Int32)) (by decide) ?_
  refine jw_aload_n dL_heldLength_2 (o := x0) rfl ?_
  refine jw_iload_n dL_heldLength_3 rfl ?_
  obtain ⟨a1, ea1, hq⟩ := Option.bind_eq_some_iff.mp hq
  obtain ⟨eo, et⟩ := jw_rc_spec ea1
  obtain ⟨w2, h2, ew, hq⟩ := jw_b2_spec hq
  cases w2 with
  | inl v =>
    refine jw_callV (As := [.int x1]) (S := [.int (0 : Int32), va_rf x2]) (a := a1) (v := some (.int v)) dL_heldLength_4 mt_X11_heldLength in_X11_heldLength se_X11_heldLength lk_L_60 (c_X11_heldLength ew) et (by decide) rfl rfl (by decide) (by simp only [List.map_cons, List.map_nil, List.sum_cons, List.sum_nil, jw_cat_rf, jw_cat_i, jw_cat_l, jw_cat_a, jw_cat_s] <;> decide) (by cases eo; rfl) ?_
    refine jw_i2l dL_heldLength_7 ?_
    obtain ⟨h3, e3, hq⟩ := Option.bind_eq_some_iff.mp hq
    refine jw_last (o := x2) dL_heldLength_8 e3 ?_
    refine jw_goto (tgt := 15) dL_heldLength_9 (by decide) ?_
    refine jw_iconst dL_heldLength_15 (v := (0 : Int32)) (by decide) ?_
    cases hq
    exact jw_iret (ty := .int) dL_heldLength_16 rfl rfl
  | inr E =>
    rcases jw_if hq with ⟨c, hq⟩ | ⟨c, hq⟩
    · subst c
      refine jw_callX (As := [.int x1]) (S := [.int (0 : Int32), va_rf x2]) (a := a1) (n2 := 3) (len := 1) (pre := []) (x := ⟨0, 9, 12, 24⟩) (suf := []) (L' := [some (va_rf x0), some (.int x1), some (va_rf x2), none]) (name := "java/lang/IndexOutOfBoundsException") dL_heldLength_4 mt_X11_heldLength in_X11_heldLength se_X11_heldLength lk_L_60 (c_X11_heldLength ew) et (by decide) rfl rfl (by decide) (by simp only [List.map_cons, List.map_nil, List.sum_cons, List.sum_nil, jw_cat_rf, jw_cat_i, jw_cat_l, jw_cat_a, jw_cat_s] <;> decide) (by cases eo; rfl) (tb := [(0, 9, 12, 24)]) rfl rfl (fun z hz => nomatch hz) rfl (by decide) cl_L_24 ca_IndexOutOfBoundsException (Or.inl ⟨3, rfl, rfl, dL_heldLength_12⟩) (Nat.le_of_ble_eq_true rfl) ((congrArg (fun q => q.set 3 none) (jw_clr_of (j := 2) jw_long_rf)).trans rfl) ?_
      refine jw_iconst dL_heldLength_13 (v := (1 : Int32)) (by decide) ?_
      cases hq
      exact jw_iret (ty := .int) dL_heldLength_14 rfl rfl
    · skip
      exact nomatch hq
theorem c_L_heldLength {h : jw_H} {x0 : Option Nat} {x1 : Int32} {x2 : Option Nat} {r : Int32} {h' : jw_H} (hq : f_L_heldLength h x0 x1 x2 = some (r, h')) : jw_Con (Cond.codeWith yL_heldLength cL_heldLength 4 (some .int) [(0, 9, 12, 24)]) yL_heldLength 9 [va_rf x0, .int x1, va_rf x2] h (.inl (some (.int r))) h' :=
  jw_conW (by decide +kernel) (by simp [jw_ent, jw_sl0_nil, jw_sl0_int, jw_sl0_long, jw_sl0_ref, jw_sl0_rf, jw_sl0_scr, List.replicate]) (by simp [jw_sl0_nil, jw_sl0_int, jw_sl0_long, jw_sl0_ref, jw_sl0_rf, jw_sl0_scr]) (l_L_heldLength hq)

noncomputable def f_L_heldAt (h : jw_H) (x0 : Option Nat) (x1 : Int32) (x2 : Int32) (x3 : Option Nat) : Option (Int32 × jw_H) :=
 (jw_rc h 11 x0).bind fun a1 =>
 jw_b2 (f_X11_heldAt h a1 x1 x2) fun w2 h2 => match w2 with
  | .inl v => (jw_sl h2 x3 (0 : Int32) v.toInt64).bind fun h3 => some ((0 : Int32), h3)
  | .inr E => if E = "java/lang/IndexOutOfBoundsException" then some ((1 : Int32), h2) else none

set_option maxRecDepth 100000 in
set_option maxHeartbeats 4000000 in
theorem l_L_heldAt {hi : jw_H} {h : jw_H} {x0 : Option Nat} {x1 : Int32} {x2 : Int32} {x3 : Option Nat} {r : Int32} {h' : jw_H} (hq : f_L_heldAt h x0 x1 x2 x3 = some (r, h')) : jw_E 9 (yL_heldAt.cls, cL_heldAt, 5, false, some .int, some [(0, 10, 13, 24)], none) hi 0 [some (va_rf x0), some (.int x1), some (.int x2), some (va_rf x3), none] [] h (.inl (some (.int r))) h' := by
  unfold f_L_heldAt at hq
  refine jw_aload_n dL_heldAt_0 (o := x3) rfl ?_
  refine jw_iconst dL_heldAt_1 (v := (0 : Int32)) (by decide) ?_
  refine jw_aload_n dL_heldAt_2 (o := x0) rfl ?_
  refine jw_iload_n dL_heldAt_3 rfl ?_
  refine jw_iload_n dL_heldAt_4 rfl ?_
  obtain ⟨a1, ea1, hq⟩ := Option.bind_eq_some_iff.mp hq
  obtain ⟨eo, et⟩ := jw_rc_spec ea1
  obtain ⟨w2, h2, ew, hq⟩ := jw_b2_spec hq
  cases w2 with
  | inl v =>
    refine jw_callV (As := [.int x1, .int x2]) (S := [.int (0 : Int32), va_rf x3]) (a := a1) (v := some (.int v)) dL_heldAt_5 mt_X11_heldAt in_X11_heldAt se_X11_heldAt lk_L_63 (c_X11_heldAt ew) et (by decide) rfl rfl (by decide) (by simp only [List.map_cons, List.map_nil, List.sum_cons, List.sum_nil, jw_cat_rf, jw_cat_i, jw_cat_l, jw_cat_a, jw_cat_s] <;> decide) (by cases eo; rfl) ?_
    refine jw_i2l dL_heldAt_8 ?_
    obtain ⟨h3, e3, hq⟩ := Option.bind_eq_some_iff.mp hq
    refine jw_last (o := x3) dL_heldAt_9 e3 ?_
    refine jw_goto (tgt := 17) dL_heldAt_10 (by decide) ?_
    refine jw_iconst dL_heldAt_17 (v := (0 : Int32)) (by decide) ?_
    cases hq
    exact jw_iret (ty := .int) dL_heldAt_18 rfl rfl
  | inr E =>
    rcases jw_if hq with ⟨c, hq⟩ | ⟨c, hq⟩
    · subst c
      refine jw_callX (As := [.int x1, .int x2]) (S := [.int (0 : Int32), va_rf x3]) (a := a1) (n2 := 4) (len := 2) (pre := []) (x := ⟨0, 10, 13, 24⟩) (suf := []) (L' := [some (va_rf x0), some (.int x1), some (.int x2), some (va_rf x3), none]) (name := "java/lang/IndexOutOfBoundsException") dL_heldAt_5 mt_X11_heldAt in_X11_heldAt se_X11_heldAt lk_L_63 (c_X11_heldAt ew) et (by decide) rfl rfl (by decide) (by simp only [List.map_cons, List.map_nil, List.sum_cons, List.sum_nil, jw_cat_rf, jw_cat_i, jw_cat_l, jw_cat_a, jw_cat_s] <;> decide) (by cases eo; rfl) (tb := [(0, 10, 13, 24)]) rfl rfl (fun z hz => nomatch hz) rfl (by decide) cl_L_24 ca_IndexOutOfBoundsException (Or.inr ⟨rfl, dL_heldAt_13⟩) (Nat.le_of_ble_eq_true rfl) ((congrArg (fun q => q.set 4 none) (jw_clr_of (j := 3) jw_long_rf)).trans rfl) ?_
      refine jw_iconst dL_heldAt_15 (v := (1 : Int32)) (by decide) ?_
      cases hq
      exact jw_iret (ty := .int) dL_heldAt_16 rfl rfl
    · skip
      exact nomatch hq
theorem c_L_heldAt {h : jw_H} {x0 : Option Nat} {x1 : Int32} {x2 : Int32} {x3 : Option Nat} {r : Int32} {h' : jw_H} (hq : f_L_heldAt h x0 x1 x2 x3 = some (r, h')) : jw_Con (Cond.codeWith yL_heldAt cL_heldAt 5 (some .int) [(0, 10, 13, 24)]) yL_heldAt 9 [va_rf x0, .int x1, .int x2, va_rf x3] h (.inl (some (.int r))) h' :=
  jw_conW (by decide +kernel) (by simp [jw_ent, jw_sl0_nil, jw_sl0_int, jw_sl0_long, jw_sl0_ref, jw_sl0_rf, jw_sl0_scr, List.replicate]) (by simp [jw_sl0_nil, jw_sl0_int, jw_sl0_long, jw_sl0_ref, jw_sl0_rf, jw_sl0_scr]) (l_L_heldAt hq)

noncomputable def f_L_outLength (h : jw_H) (x0 : Option Nat) (x1 : Int32) (x2 : Option Nat) : Option (Int32 × jw_H) :=
 (jw_rc h 11 x0).bind fun a1 =>
 jw_b2 (f_X11_outLength h a1 x1) fun w2 h2 => match w2 with
  | .inl v => (jw_sl h2 x2 (0 : Int32) v.toInt64).bind fun h3 => some ((0 : Int32), h3)
  | .inr E => if E = "java/lang/IndexOutOfBoundsException" then some ((1 : Int32), h2) else none

set_option maxRecDepth 100000 in
set_option maxHeartbeats 4000000 in
theorem l_L_outLength {hi : jw_H} {h : jw_H} {x0 : Option Nat} {x1 : Int32} {x2 : Option Nat} {r : Int32} {h' : jw_H} (hq : f_L_outLength h x0 x1 x2 = some (r, h')) : jw_E 9 (yL_outLength.cls, cL_outLength, 4, false, some .int, some [(0, 9, 12, 24)], none) hi 0 [some (va_rf x0), some (.int x1), some (va_rf x2), none] [] h (.inl (some (.int r))) h' := by
  unfold f_L_outLength at hq
  refine jw_aload_n dL_outLength_0 (o := x2) rfl ?_
  refine jw_iconst dL_outLength_1 (v := (0 : Int32)) (by decide) ?_
  refine jw_aload_n dL_outLength_2 (o := x0) rfl ?_
  refine jw_iload_n dL_outLength_3 rfl ?_
  obtain ⟨a1, ea1, hq⟩ := Option.bind_eq_some_iff.mp hq
  obtain ⟨eo, et⟩ := jw_rc_spec ea1
  obtain ⟨w2, h2, ew, hq⟩ := jw_b2_spec hq
  cases w2 with
  | inl v =>
    refine jw_callV (As := [.int x1]) (S := [.int (0 : Int32), va_rf x2]) (a := a1) (v := some (.int v)) dL_outLength_4 mt_X11_outLength in_X11_outLength se_X11_outLength lk_L_66 (c_X11_outLength ew) et (by decide) rfl rfl (by decide) (by simp only [List.map_cons, List.map_nil, List.sum_cons, List.sum_nil, jw_cat_rf, jw_cat_i, jw_cat_l, jw_cat_a, jw_cat_s] <;> decide) (by cases eo; rfl) ?_
    refine jw_i2l dL_outLength_7 ?_
    obtain ⟨h3, e3, hq⟩ := Option.bind_eq_some_iff.mp hq
    refine jw_last (o := x2) dL_outLength_8 e3 ?_
    refine jw_goto (tgt := 15) dL_outLength_9 (by decide) ?_
    refine jw_iconst dL_outLength_15 (v := (0 : Int32)) (by decide) ?_
    cases hq
    exact jw_iret (ty := .int) dL_outLength_16 rfl rfl
  | inr E =>
    rcases jw_if hq with ⟨c, hq⟩ | ⟨c, hq⟩
    · subst c
      refine jw_callX (As := [.int x1]) (S := [.int (0 : Int32), va_rf x2]) (a := a1) (n2 := 3) (len := 1) (pre := []) (x := ⟨0, 9, 12, 24⟩) (suf := []) (L' := [some (va_rf x0), some (.int x1), some (va_rf x2), none]) (name := "java/lang/IndexOutOfBoundsException") dL_outLength_4 mt_X11_outLength in_X11_outLength se_X11_outLength lk_L_66 (c_X11_outLength ew) et (by decide) rfl rfl (by decide) (by simp only [List.map_cons, List.map_nil, List.sum_cons, List.sum_nil, jw_cat_rf, jw_cat_i, jw_cat_l, jw_cat_a, jw_cat_s] <;> decide) (by cases eo; rfl) (tb := [(0, 9, 12, 24)]) rfl rfl (fun z hz => nomatch hz) rfl (by decide) cl_L_24 ca_IndexOutOfBoundsException (Or.inl ⟨3, rfl, rfl, dL_outLength_12⟩) (Nat.le_of_ble_eq_true rfl) ((congrArg (fun q => q.set 3 none) (jw_clr_of (j := 2) jw_long_rf)).trans rfl) ?_
      refine jw_iconst dL_outLength_13 (v := (1 : Int32)) (by decide) ?_
      cases hq
      exact jw_iret (ty := .int) dL_outLength_14 rfl rfl
    · skip
      exact nomatch hq
theorem c_L_outLength {h : jw_H} {x0 : Option Nat} {x1 : Int32} {x2 : Option Nat} {r : Int32} {h' : jw_H} (hq : f_L_outLength h x0 x1 x2 = some (r, h')) : jw_Con (Cond.codeWith yL_outLength cL_outLength 4 (some .int) [(0, 9, 12, 24)]) yL_outLength 9 [va_rf x0, .int x1, va_rf x2] h (.inl (some (.int r))) h' :=
  jw_conW (by decide +kernel) (by simp [jw_ent, jw_sl0_nil, jw_sl0_int, jw_sl0_long, jw_sl0_ref, jw_sl0_rf, jw_sl0_scr, List.replicate]) (by simp [jw_sl0_nil, jw_sl0_int, jw_sl0_long, jw_sl0_ref, jw_sl0_rf, jw_sl0_scr]) (l_L_outLength hq)

noncomputable def f_L_outAt (h : jw_H) (x0 : Option Nat) (x1 : Int32) (x2 : Int32) (x3 : Option Nat) : Option (Int32 × jw_H) :=
 (jw_rc h 11 x0).bind fun a1 =>
 jw_b2 (f_X11_outAt h a1 x1 x2) fun w2 h2 => match w2 with
  | .inl v => (jw_sl h2 x3 (0 : Int32) v.toInt64).bind fun h3 => some ((0 : Int32), h3)
  | .inr E => if E = "java/lang/IndexOutOfBoundsException" then some ((1 : Int32), h2) else none

set_option maxRecDepth 100000 in
set_option maxHeartbeats 4000000 in
theorem l_L_outAt {hi : jw_H} {h : jw_H} {x0 : Option Nat} {x1 : Int32} {x2 : Int32} {x3 : Option Nat} {r : Int32} {h' : jw_H} (hq : f_L_outAt h x0 x1 x2 x3 = some (r, h')) : jw_E 9 (yL_outAt.cls, cL_outAt, 5, false, some .int, some [(0, 10, 13, 24)], none) hi 0 [some (va_rf x0), some (.int x1), some (.int x2), some (va_rf x3), none] [] h (.inl (some (.int r))) h' := by
  unfold f_L_outAt at hq
  refine jw_aload_n dL_outAt_0 (o := x3) rfl ?_
  refine jw_iconst dL_outAt_1 (v := (0 : Int32)) (by decide) ?_
  refine jw_aload_n dL_outAt_2 (o := x0) rfl ?_
  refine jw_iload_n dL_outAt_3 rfl ?_
  refine jw_iload_n dL_outAt_4 rfl ?_
  obtain ⟨a1, ea1, hq⟩ := Option.bind_eq_some_iff.mp hq
  obtain ⟨eo, et⟩ := jw_rc_spec ea1
  obtain ⟨w2, h2, ew, hq⟩ := jw_b2_spec hq
  cases w2 with
  | inl v =>
    refine jw_callV (As := [.int x1, .int x2]) (S := [.int (0 : Int32), va_rf x3]) (a := a1) (v := some (.int v)) dL_outAt_5 mt_X11_outAt in_X11_outAt se_X11_outAt lk_L_69 (c_X11_outAt ew) et (by decide) rfl rfl (by decide) (by simp only [List.map_cons, List.map_nil, List.sum_cons, List.sum_nil, jw_cat_rf, jw_cat_i, jw_cat_l, jw_cat_a, jw_cat_s] <;> decide) (by cases eo; rfl) ?_
    refine jw_i2l dL_outAt_8 ?_
    obtain ⟨h3, e3, hq⟩ := Option.bind_eq_some_iff.mp hq
    refine jw_last (o := x3) dL_outAt_9 e3 ?_
    refine jw_goto (tgt := 17) dL_outAt_10 (by decide) ?_
    refine jw_iconst dL_outAt_17 (v := (0 : Int32)) (by decide) ?_
    cases hq
    exact jw_iret (ty := .int) dL_outAt_18 rfl rfl
  | inr E =>
    rcases jw_if hq with ⟨c, hq⟩ | ⟨c, hq⟩
    · subst c
      refine jw_callX (As := [.int x1, .int x2]) (S := [.int (0 : Int32), va_rf x3]) (a := a1) (n2 := 4) (len := 2) (pre := []) (x := ⟨0, 10, 13, 24⟩) (suf := []) (L' := [some (va_rf x0), some (.int x1), some (.int x2), some (va_rf x3), none]) (name := "java/lang/IndexOutOfBoundsException") dL_outAt_5 mt_X11_outAt in_X11_outAt se_X11_outAt lk_L_69 (c_X11_outAt ew) et (by decide) rfl rfl (by decide) (by simp only [List.map_cons, List.map_nil, List.sum_cons, List.sum_nil, jw_cat_rf, jw_cat_i, jw_cat_l, jw_cat_a, jw_cat_s] <;> decide) (by cases eo; rfl) (tb := [(0, 10, 13, 24)]) rfl rfl (fun z hz => nomatch hz) rfl (by decide) cl_L_24 ca_IndexOutOfBoundsException (Or.inr ⟨rfl, dL_outAt_13⟩) (Nat.le_of_ble_eq_true rfl) ((congrArg (fun q => q.set 4 none) (jw_clr_of (j := 3) jw_long_rf)).trans rfl) ?_
      refine jw_iconst dL_outAt_15 (v := (1 : Int32)) (by decide) ?_
      cases hq
      exact jw_iret (ty := .int) dL_outAt_16 rfl rfl
    · skip
      exact nomatch hq
theorem c_L_outAt {h : jw_H} {x0 : Option Nat} {x1 : Int32} {x2 : Int32} {x3 : Option Nat} {r : Int32} {h' : jw_H} (hq : f_L_outAt h x0 x1 x2 x3 = some (r, h')) : jw_Con (Cond.codeWith yL_outAt cL_outAt 5 (some .int) [(0, 10, 13, 24)]) yL_outAt 9 [va_rf x0, .int x1, .int x2, va_rf x3] h (.inl (some (.int r))) h' :=
  jw_conW (by decide +kernel) (by simp [jw_ent, jw_sl0_nil, jw_sl0_int, jw_sl0_long, jw_sl0_ref, jw_sl0_rf, jw_sl0_scr, List.replicate]) (by simp [jw_sl0_nil, jw_sl0_int, jw_sl0_long, jw_sl0_ref, jw_sl0_rf, jw_sl0_scr]) (l_L_outAt hq)

noncomputable def f_L_fileRows (h : jw_H) (x0 : Option Nat) (x1 : Int32) (x2 : Option Nat) : Option (Int32 × jw_H) :=
 (jw_rc h 11 x0).bind fun a1 =>
 jw_b2 (f_X11_fileRows h a1 x1) fun w2 h2 => match w2 with
  | .inl v => (jw_sl h2 x2 (0 : Int32) v.toInt64).bind fun h3 => some ((0 : Int32), h3)
  | .inr E => if E = "java/lang/IndexOutOfBoundsException" then some ((1 : Int32), h2) else none

set_option maxRecDepth 100000 in
set_option maxHeartbeats 4000000 in
theorem l_L_fileRows {hi : jw_H} {h : jw_H} {x0 : Option Nat} {x1 : Int32} {x2 : Option Nat} {r : Int32} {h' : jw_H} (hq : f_L_fileRows h x0 x1 x2 = some (r, h')) : jw_E 9 (yL_fileRows.cls, cL_fileRows, 4, false, some .int, some [(0, 9, 12, 24)], none) hi 0 [some (va_rf x0), some (.int x1), some (va_rf x2), none] [] h (.inl (some (.int r))) h' := by
  unfold f_L_fileRows at hq
  refine jw_aload_n dL_fileRows_0 (o := x2) rfl ?_
  refine jw_iconst dL_fileRows_1 (v := (0 : Int32)) (by decide) ?_
  refine jw_aload_n dL_fileRows_2 (o := x0) rfl ?_
  refine jw_iload_n dL_fileRows_3 rfl ?_
  obtain ⟨a1, ea1, hq⟩ := Option.bind_eq_some_iff.mp hq
  obtain ⟨eo, et⟩ := jw_rc_spec ea1
  obtain ⟨w2, h2, ew, hq⟩ := jw_b2_spec hq
  cases w2 with
  | inl v =>
    refine jw_callV (As := [.int x1]) (S := [.int (0 : Int32), va_rf x2]) (a := a1) (v := some (.int v)) dL_fileRows_4 mt_X11_fileRows in_X11_fileRows se_X11_fileRows lk_L_72 (c_X11_fileRows ew) et (by decide) rfl rfl (by decide) (by simp only [List.map_cons, List.map_nil, List.sum_cons, List.sum_nil, jw_cat_rf, jw_cat_i, jw_cat_l, jw_cat_a, jw_cat_s] <;> decide) (by cases eo; rfl) ?_
    refine jw_i2l dL_fileRows_7 ?_
    obtain ⟨h3, e3, hq⟩ := Option.bind_eq_some_iff.mp hq
    refine jw_last (o := x2) dL_fileRows_8 e3 ?_
    refine jw_goto (tgt := 15) dL_fileRows_9 (by decide) ?_
    refine jw_iconst dL_fileRows_15 (v := (0 : Int32)) (by decide) ?_
    cases hq
    exact jw_iret (ty := .int) dL_fileRows_16 rfl rfl
  | inr E =>
    rcases jw_if hq with ⟨c, hq⟩ | ⟨c, hq⟩
    · subst c
      refine jw_callX (As := [.int x1]) (S := [.int (0 : Int32), va_rf x2]) (a := a1) (n2 := 3) (len := 1) (pre := []) (x := ⟨0, 9, 12, 24⟩) (suf := []) (L' := [some (va_rf x0), some (.int x1), some (va_rf x2), none]) (name := "java/lang/IndexOutOfBoundsException") dL_fileRows_4 mt_X11_fileRows in_X11_fileRows se_X11_fileRows lk_L_72 (c_X11_fileRows ew) et (by decide) rfl rfl (by decide) (by simp only [List.map_cons, List.map_nil, List.sum_cons, List.sum_nil, jw_cat_rf, jw_cat_i, jw_cat_l, jw_cat_a, jw_cat_s] <;> decide) (by cases eo; rfl) (tb := [(0, 9, 12, 24)]) rfl rfl (fun z hz => nomatch hz) rfl (by decide) cl_L_24 ca_IndexOutOfBoundsException (Or.inl ⟨3, rfl, rfl, dL_fileRows_12⟩) (Nat.le_of_ble_eq_true rfl) ((congrArg (fun q => q.set 3 none) (jw_clr_of (j := 2) jw_long_rf)).trans rfl) ?_
      refine jw_iconst dL_fileRows_13 (v := (1 : Int32)) (by decide) ?_
      cases hq
      exact jw_iret (ty := .int) dL_fileRows_14 rfl rfl
    · skip
      exact nomatch hq
theorem c_L_fileRows {h : jw_H} {x0 : Option Nat} {x1 : Int32} {x2 : Option Nat} {r : Int32} {h' : jw_H} (hq : f_L_fileRows h x0 x1 x2 = some (r, h')) : jw_Con (Cond.codeWith yL_fileRows cL_fileRows 4 (some .int) [(0, 9, 12, 24)]) yL_fileRows 9 [va_rf x0, .int x1, va_rf x2] h (.inl (some (.int r))) h' :=
  jw_conW (by decide +kernel) (by simp [jw_ent, jw_sl0_nil, jw_sl0_int, jw_sl0_long, jw_sl0_ref, jw_sl0_rf, jw_sl0_scr, List.replicate]) (by simp [jw_sl0_nil, jw_sl0_int, jw_sl0_long, jw_sl0_ref, jw_sl0_rf, jw_sl0_scr]) (l_L_fileRows hq)

noncomputable def f_L_fileLength (h : jw_H) (x0 : Option Nat) (x1 : Int32) (x2 : Int32) (x3 : Option Nat) : Option (Int32 × jw_H) :=
 (jw_rc h 11 x0).bind fun a1 =>
 jw_b2 (f_X11_fileLength h a1 x1 x2) fun w2 h2 => match w2 with
  | .inl v => (jw_sl h2 x3 (0 : Int32) v.toInt64).bind fun h3 => some ((0 : Int32), h3)
  | .inr E => if E = "java/lang/IndexOutOfBoundsException" then some ((1 : Int32), h2) else none

set_option maxRecDepth 100000 in
set_option maxHeartbeats 4000000 in
theorem l_L_fileLength {hi : jw_H} {h : jw_H} {x0 : Option Nat} {x1 : Int32} {x2 : Int32} {x3 : Option Nat} {r : Int32} {h' : jw_H} (hq : f_L_fileLength h x0 x1 x2 x3 = some (r, h')) : jw_E 9 (yL_fileLength.cls, cL_fileLength, 5, false, some .int, some [(0, 10, 13, 24)], none) hi 0 [some (va_rf x0), some (.int x1), some (.int x2), some (va_rf x3), none] [] h (.inl (some (.int r))) h' := by
  unfold f_L_fileLength at hq
  refine jw_aload_n dL_fileLength_0 (o := x3) rfl ?_
  refine jw_iconst dL_fileLength_1 (v := (0 : Int32)) (by decide) ?_
  refine jw_aload_n dL_fileLength_2 (o := x0) rfl ?_
  refine jw_iload_n dL_fileLength_3 rfl ?_
  refine jw_iload_n dL_fileLength_4 rfl ?_
  obtain ⟨a1, ea1, hq⟩ := Option.bind_eq_some_iff.mp hq
  obtain ⟨eo, et⟩ := jw_rc_spec ea1
  obtain ⟨w2, h2, ew, hq⟩ := jw_b2_spec hq
  cases w2 with
  | inl v =>
    refine jw_callV (As := [.int x1, .int x2]) (S := [.int (0 : Int32), va_rf x3]) (a := a1) (v := some (.int v)) dL_fileLength_5 mt_X11_fileLength in_X11_fileLength se_X11_fileLength lk_L_75 (c_X11_fileLength ew) et (by decide) rfl rfl (by decide) (by simp only [List.map_cons, List.map_nil, List.sum_cons, List.sum_nil, jw_cat_rf, jw_cat_i, jw_cat_l, jw_cat_a, jw_cat_s] <;> decide) (by cases eo; rfl) ?_
    refine jw_i2l dL_fileLength_8 ?_
    obtain ⟨h3, e3, hq⟩ := Option.bind_eq_some_iff.mp hq
    refine jw_last (o := x3) dL_fileLength_9 e3 ?_
    refine jw_goto (tgt := 17) dL_fileLength_10 (by decide) ?_
    refine jw_iconst dL_fileLength_17 (v := (0 : Int32)) (by decide) ?_
    cases hq
    exact jw_iret (ty := .int) dL_fileLength_18 rfl rfl
  | inr E =>
    rcases jw_if hq with ⟨c, hq⟩ | ⟨c, hq⟩
    · subst c
      refine jw_callX (As := [.int x1, .int x2]) (S := [.int (0 : Int32), va_rf x3]) (a := a1) (n2 := 4) (len := 2) (pre := []) (x := ⟨0, 10, 13, 24⟩) (suf := []) (L' := [some (va_rf x0), some (.int x1), some (.int x2), some (va_rf x3), none]) (name := "java/lang/IndexOutOfBoundsException") dL_fileLength_5 mt_X11_fileLength in_X11_fileLength se_X11_fileLength lk_L_75 (c_X11_fileLength ew) et (by decide) rfl rfl (by decide) (by simp only [List.map_cons, List.map_nil, List.sum_cons, List.sum_nil, jw_cat_rf, jw_cat_i, jw_cat_l, jw_cat_a, jw_cat_s] <;> decide) (by cases eo; rfl) (tb := [(0, 10, 13, 24)]) rfl rfl (fun z hz => nomatch hz) rfl (by decide) cl_L_24 ca_IndexOutOfBoundsException (Or.inr ⟨rfl, dL_fileLength_13⟩) (Nat.le_of_ble_eq_true rfl) ((congrArg (fun q => q.set 4 none) (jw_clr_of (j := 3) jw_long_rf)).trans rfl) ?_
      refine jw_iconst dL_fileLength_15 (v := (1 : Int32)) (by decide) ?_
      cases hq
      exact jw_iret (ty := .int) dL_fileLength_16 rfl rfl
    · skip
      exact nomatch hq
theorem c_L_fileLength {h : jw_H} {x0 : Option Nat} {x1 : Int32} {x2 : Int32} {x3 : Option Nat} {r : Int32} {h' : jw_H} (hq : f_L_fileLength h x0 x1 x2 x3 = some (r, h')) : jw_Con (Cond.codeWith yL_fileLength cL_fileLength 5 (some .int) [(0, 10, 13, 24)]) yL_fileLength 9 [va_rf x0, .int x1, .int x2, va_rf x3] h (.inl (some (.int r))) h' :=
  jw_conW (by decide +kernel) (by simp [jw_ent, jw_sl0_nil, jw_sl0_int, jw_sl0_long, jw_sl0_ref, jw_sl0_rf, jw_sl0_scr, List.replicate]) (by simp [jw_sl0_nil, jw_sl0_int, jw_sl0_long, jw_sl0_ref, jw_sl0_rf, jw_sl0_scr]) (l_L_fileLength hq)

noncomputable def f_L_fileAt (h : jw_H) (x0 : Option Nat) (x1 : Int32) (x2 : Int32) (x3 : Int32) (x4 : Option Nat) : Option (Int32 × jw_H) :=
 (jw_rc h 11 x0).bind fun a1 =>
 jw_b2 (f_X11_fileAt h a1 x1 x2 x3) fun w2 h2 => match w2 with
  | .inl v => (jw_sl h2 x4 (0 : Int32) v.toInt64).bind fun h3 => some ((0 : Int32), h3)
  | .inr E => if E = "java/lang/IndexOutOfBoundsException" then some ((1 : Int32), h2) else none

set_option maxRecDepth 100000 in
set_option maxHeartbeats 4000000 in
theorem l_L_fileAt {hi : jw_H} {h : jw_H} {x0 : Option Nat} {x1 : Int32} {x2 : Int32} {x3 : Int32} {x4 : Option Nat} {r : Int32} {h' : jw_H} (hq : f_L_fileAt h x0 x1 x2 x3 x4 = some (r, h')) : jw_E 9 (yL_fileAt.cls, cL_fileAt, 6, false, some .int, some [(0, 12, 15, 24)], none) hi 0 [some (va_rf x0), some (.int x1), some (.int x2), some (.int x3), some (va_rf x4), none] [] h (.inl (some (.int r))) h' := by
  unfold f_L_fileAt at hq
  refine jw_aload dL_fileAt_0 (o := x4) rfl ?_
  refine jw_iconst dL_fileAt_2 (v := (0 : Int32)) (by decide) ?_
  refine jw_aload_n dL_fileAt_3 (o := x0) rfl ?_
  refine jw_iload_n dL_fileAt_4 rfl ?_
  refine jw_iload_n dL_fileAt_5 rfl ?_
  refine jw_iload_n dL_fileAt_6 rfl ?_
  obtain ⟨a1, ea1, hq⟩ := Option.bind_eq_some_iff.mp hq
  obtain ⟨eo, et⟩ := jw_rc_spec ea1
  obtain ⟨w2, h2, ew, hq⟩ := jw_b2_spec hq
  cases w2 with
  | inl v =>
    refine jw_callV (As := [.int x1, .int x2, .int x3]) (S := [.int (0 : Int32), va_rf x4]) (a := a1) (v := some (.int v)) dL_fileAt_7 mt_X11_fileAt in_X11_fileAt se_X11_fileAt lk_L_78 (c_X11_fileAt ew) et (by decide) rfl rfl (by decide) (by simp only [List.map_cons, List.map_nil, List.sum_cons, List.sum_nil, jw_cat_rf, jw_cat_i, jw_cat_l, jw_cat_a, jw_cat_s] <;> decide) (by cases eo; rfl) ?_
    refine jw_i2l dL_fileAt_10 ?_
    obtain ⟨h3, e3, hq⟩ := Option.bind_eq_some_iff.mp hq
    refine jw_last (o := x4) dL_fileAt_11 e3 ?_
    refine jw_goto (tgt := 19) dL_fileAt_12 (by decide) ?_
    refine jw_iconst dL_fileAt_19 (v := (0 : Int32)) (by decide) ?_
    cases hq
    exact jw_iret (ty := .int) dL_fileAt_20 rfl rfl
  | inr E =>
    rcases jw_if hq with ⟨c, hq⟩ | ⟨c, hq⟩
    · subst c
      refine jw_callX (As := [.int x1, .int x2, .int x3]) (S := [.int (0 : Int32), va_rf x4]) (a := a1) (n2 := 5) (len := 2) (pre := []) (x := ⟨0, 12, 15, 24⟩) (suf := []) (L' := [some (va_rf x0), some (.int x1), some (.int x2), some (.int x3), some (va_rf x4), none]) (name := "java/lang/IndexOutOfBoundsException") dL_fileAt_7 mt_X11_fileAt in_X11_fileAt se_X11_fileAt lk_L_78 (c_X11_fileAt ew) et (by decide) rfl rfl (by decide) (by simp only [List.map_cons, List.map_nil, List.sum_cons, List.sum_nil, jw_cat_rf, jw_cat_i, jw_cat_l, jw_cat_a, jw_cat_s] <;> decide) (by cases eo; rfl) (tb := [(0, 12, 15, 24)]) rfl rfl (fun z hz => nomatch hz) rfl (by decide) cl_L_24 ca_IndexOutOfBoundsException (Or.inr ⟨rfl, dL_fileAt_15⟩) (Nat.le_of_ble_eq_true rfl) ((congrArg (fun q => q.set 5 none) (jw_clr_of (j := 4) jw_long_rf)).trans rfl) ?_
      refine jw_iconst dL_fileAt_17 (v := (1 : Int32)) (by decide) ?_
      cases hq
      exact jw_iret (ty := .int) dL_fileAt_18 rfl rfl
    · skip
      exact nomatch hq
theorem c_L_fileAt {h : jw_H} {x0 : Option Nat} {x1 : Int32} {x2 : Int32} {x3 : Int32} {x4 : Option Nat} {r : Int32} {h' : jw_H} (hq : f_L_fileAt h x0 x1 x2 x3 x4 = some (r, h')) : jw_Con (Cond.codeWith yL_fileAt cL_fileAt 6 (some .int) [(0, 12, 15, 24)]) yL_fileAt 9 [va_rf x0, .int x1, .int x2, .int x3, va_rf x4] h (.inl (some (.int r))) h' :=
  jw_conW (by decide +kernel) (by simp [jw_ent, jw_sl0_nil, jw_sl0_int, jw_sl0_long, jw_sl0_ref, jw_sl0_rf, jw_sl0_scr, List.replicate]) (by simp [jw_sl0_nil, jw_sl0_int, jw_sl0_long, jw_sl0_ref, jw_sl0_rf, jw_sl0_scr]) (l_L_fileAt hq)

noncomputable def f_L_find (h : jw_H) (x0 : Option Nat) (x1 : Int32) (x2 : Option Nat) : Option (Int32 × jw_H) :=
 (jw_rc h 11 x0).bind fun a1 =>
 jw_b2 (f_X11_find h a1 x1) fun w2 h2 => match w2 with
  | .inl v => (jw_sl h2 x2 (0 : Int32) v.toInt64).bind fun h3 => some ((0 : Int32), h3)
  | .inr E => if E = "java/lang/IllegalStateException" then some ((1 : Int32), h2) else none

set_option maxRecDepth 100000 in
set_option maxHeartbeats 4000000 in
theorem l_L_find {hi : jw_H} {h : jw_H} {x0 : Option Nat} {x1 : Int32} {x2 : Option Nat} {r : Int32} {h' : jw_H} (hq : f_L_find h x0 x1 x2 = some (r, h')) : jw_E 10 (yL_find.cls, cL_find, 4, false, some .int, some [(0, 9, 12, 15)], none) hi 0 [some (va_rf x0), some (.int x1), some (va_rf x2), none] [] h (.inl (some (.int r))) h' := by
  unfold f_L_find at hq
  refine jw_aload_n dL_find_0 (o := x2) rfl ?_
  refine jw_iconst dL_find_1 (v := (0 : Int32)) (by decide) ?_
  refine jw_aload_n dL_find_2 (o := x0) rfl ?_
  refine jw_iload_n dL_find_3 rfl ?_
  obtain ⟨a1, ea1, hq⟩ := Option.bind_eq_some_iff.mp hq
  obtain ⟨eo, et⟩ := jw_rc_spec ea1
  obtain ⟨w2, h2, ew, hq⟩ := jw_b2_spec hq
  cases w2 with
  | inl v =>
    refine jw_callV (As := [.int x1]) (S := [.int (0 : Int32), va_rf x2]) (a := a1) (v := some (.int v)) dL_find_4 mt_X11_find in_X11_find se_X11_find lk_L_82 (c_X11_find ew) et (by decide) rfl rfl (by decide) (by simp only [List.map_cons, List.map_nil, List.sum_cons, List.sum_nil, jw_cat_rf, jw_cat_i, jw_cat_l, jw_cat_a, jw_cat_s] <;> decide) (by cases eo; rfl) ?_
    refine jw_i2l dL_find_7 ?_
    obtain ⟨h3, e3, hq⟩ := Option.bind_eq_some_iff.mp hq
    refine jw_last (o := x2) dL_find_8 e3 ?_
    refine jw_goto (tgt := 15) dL_find_9 (by decide) ?_
    refine jw_iconst dL_find_15 (v := (0 : Int32)) (by decide) ?_
    cases hq
    exact jw_iret (ty := .int) dL_find_16 rfl rfl
  | inr E =>
    rcases jw_if hq with ⟨c, hq⟩ | ⟨c, hq⟩
    · subst c
      refine jw_callX (As := [.int x1]) (S := [.int (0 : Int32), va_rf x2]) (a := a1) (n2 := 3) (len := 1) (pre := []) (x := ⟨0, 9, 12, 15⟩) (suf := []) (L' := [some (va_rf x0), some (.int x1), some (va_rf x2), none]) (name := "java/lang/IllegalStateException") dL_find_4 mt_X11_find in_X11_find se_X11_find lk_L_82 (c_X11_find ew) et (by decide) rfl rfl (by decide) (by simp only [List.map_cons, List.map_nil, List.sum_cons, List.sum_nil, jw_cat_rf, jw_cat_i, jw_cat_l, jw_cat_a, jw_cat_s] <;> decide) (by cases eo; rfl) (tb := [(0, 9, 12, 15)]) rfl rfl (fun z hz => nomatch hz) rfl (by decide) cl_L_15 ca_IllegalStateException (Or.inl ⟨3, rfl, rfl, dL_find_12⟩) (Nat.le_of_ble_eq_true rfl) ((congrArg (fun q => q.set 3 none) (jw_clr_of (j := 2) jw_long_rf)).trans rfl) ?_
      refine jw_iconst dL_find_13 (v := (1 : Int32)) (by decide) ?_
      cases hq
      exact jw_iret (ty := .int) dL_find_14 rfl rfl
    · skip
      exact nomatch hq
theorem c_L_find {h : jw_H} {x0 : Option Nat} {x1 : Int32} {x2 : Option Nat} {r : Int32} {h' : jw_H} (hq : f_L_find h x0 x1 x2 = some (r, h')) : jw_Con (Cond.codeWith yL_find cL_find 4 (some .int) [(0, 9, 12, 15)]) yL_find 10 [va_rf x0, .int x1, va_rf x2] h (.inl (some (.int r))) h' :=
  jw_conW (by decide +kernel) (by simp [jw_ent, jw_sl0_nil, jw_sl0_int, jw_sl0_long, jw_sl0_ref, jw_sl0_rf, jw_sl0_scr, List.replicate]) (by simp [jw_sl0_nil, jw_sl0_int, jw_sl0_long, jw_sl0_ref, jw_sl0_rf, jw_sl0_scr]) (l_L_find hq)

noncomputable def f_L_findStart (h : jw_H) (x0 : Option Nat) (x1 : Int32) (x2 : Option Nat) : Option (Int32 × jw_H) :=
 (jw_rc h 11 x0).bind fun a1 =>
 jw_b2 (f_X11_findStart h a1 x1) fun w2 h2 => match w2 with
  | .inl v => (jw_sl h2 x2 (0 : Int32) v.toInt64).bind fun h3 => some ((0 : Int32), h3)
  | .inr E => if E = "java/lang/IndexOutOfBoundsException" then some ((1 : Int32), h2) else if E = "java/lang/IllegalStateException" then some ((2 : Int32), h2) else none

set_option maxRecDepth 100000 in
set_option maxHeartbeats 4000000 in
theorem l_L_findStart {hi : jw_H} {h : jw_H} {x0 : Option Nat} {x1 : Int32} {x2 : Option Nat} {r : Int32} {h' : jw_H} (hq : f_L_findStart h x0 x1 x2 = some (r, h')) : jw_E 10 (yL_findStart.cls, cL_findStart, 4, false, some .int, some [(0, 9, 12, 24), (0, 9, 15, 15)], none) hi 0 [some (va_rf x0), some (.int x1), some (va_rf x2), none] [] h (.inl (some (.int r))) h' := by
  unfold f_L_findStart at hq
  refine jw_aload_n dL_findStart_0 (o := x2) rfl ?_
  refine jw_iconst dL_findStart_1 (v := (0 : Int32)) (by decide) ?_
  refine jw_aload_n dL_findStart_2 (o := x0) rfl ?_
  refine jw_iload_n dL_findStart_3 rfl ?_
  obtain ⟨a1, ea1, hq⟩ := Option.bind_eq_some_iff.mp hq
  obtain ⟨eo, et⟩ := jw_rc_spec ea1
  obtain ⟨w2, h2, ew, hq⟩ := jw_b2_spec hq
  cases w2 with
  | inl v =>
    refine jw_callV (As := [.int x1]) (S := [.int (0 : Int32), va_rf x2]) (a := a1) (v := some (.int v)) dL_findStart_4 mt_X11_findStart in_X11_findStart se_X11_findStart lk_L_86 (c_X11_findStart ew) et (by decide) rfl rfl (by decide) (by simp only [List.map_cons, List.map_nil, List.sum_cons, List.sum_nil, jw_cat_rf, jw_cat_i, jw_cat_l, jw_cat_a, jw_cat_s] <;> decide) (by cases eo; rfl) ?_
    refine jw_i2l dL_findStart_7 ?_
    obtain ⟨h3, e3, hq⟩ := Option.bind_eq_some_iff.mp hq
    refine jw_last (o := x2) dL_findStart_8 e3 ?_
    refine jw_goto (tgt := 18) dL_findStart_9 (by decide) ?_
    refine jw_iconst dL_findStart_18 (v := (0 : Int32)) (by decide) ?_
    cases hq
    exact jw_iret (ty := .int) dL_findStart_19 rfl rfl
  | inr E =>
    rcases jw_if hq with ⟨c, hq⟩ | ⟨c, hq⟩
    · subst c
      refine jw_callX (As := [.int x1]) (S := [.int (0 : Int32), va_rf x2]) (a := a1) (n2 := 3) (len := 1) (pre := []) (x := ⟨0, 9, 12, 24⟩) (suf := [⟨0, 9, 15, 15⟩]) (L' := [some (va_rf x0), some (.int x1), some (va_rf x2), none]) (name := "java/lang/IndexOutOfBoundsException") dL_findStart_4 mt_X11_findStart in_X11_findStart se_X11_findStart lk_L_86 (c_X11_findStart ew) et (by decide) rfl rfl (by decide) (by simp only [List.map_cons, List.map_nil, List.sum_cons, List.sum_nil, jw_cat_rf, jw_cat_i, jw_cat_l, jw_cat_a, jw_cat_s] <;> decide) (by cases eo; rfl) (tb := [(0, 9, 12, 24), (0, 9, 15, 15)]) rfl rfl (fun z hz => nomatch hz) rfl (by decide) cl_L_24 ca_IndexOutOfBoundsException (Or.inl ⟨3, rfl, rfl, dL_findStart_12⟩) (Nat.le_of_ble_eq_true rfl) ((congrArg (fun q => q.set 3 none) (jw_clr_of (j := 2) jw_long_rf)).trans rfl) ?_
      refine jw_iconst dL_findStart_13 (v := (1 : Int32)) (by decide) ?_
      cases hq
      exact jw_iret (ty := .int) dL_findStart_14 rfl rfl
    · skip
      rcases jw_if hq with ⟨c, hq⟩ | ⟨c, hq⟩
      · subst c
        refine jw_callX (As := [.int x1]) (S := [.int (0 : Int32), va_rf x2]) (a := a1) (n2 := 3) (len := 1) (pre := [⟨0, 9, 12, 24⟩]) (x := ⟨0, 9, 15, 15⟩) (suf := []) (L' := [some (va_rf x0), some (.int x1), some (va_rf x2), none]) (name := "java/lang/IllegalStateException") dL_findStart_4 mt_X11_findStart in_X11_findStart se_X11_findStart lk_L_86 (c_X11_findStart ew) et (by decide) rfl rfl (by decide) (by simp only [List.map_cons, List.map_nil, List.sum_cons, List.sum_nil, jw_cat_rf, jw_cat_i, jw_cat_l, jw_cat_a, jw_cat_s] <;> decide) (by cases eo; rfl) (tb := [(0, 9, 12, 24), (0, 9, 15, 15)]) rfl rfl (fun z hz => by rw [List.mem_singleton] at hz; subst hz; exact Or.inr ⟨by decide, "java/lang/IndexOutOfBoundsException", cl_L_24, by decide⟩) rfl (by decide) cl_L_15 ca_IllegalStateException (Or.inl ⟨3, rfl, rfl, dL_findStart_15⟩) (Nat.le_of_ble_eq_true rfl) ((congrArg (fun q => q.set 3 none) (jw_clr_of (j := 2) jw_long_rf)).trans rfl) ?_
        refine jw_iconst dL_findStart_16 (v := (2 : Int32)) (by decide) ?_
        cases hq
        exact jw_iret (ty := .int) dL_findStart_17 rfl rfl
      · skip
        exact nomatch hq
theorem c_L_findStart {h : jw_H} {x0 : Option Nat} {x1 : Int32} {x2 : Option Nat} {r : Int32} {h' : jw_H} (hq : f_L_findStart h x0 x1 x2 = some (r, h')) : jw_Con (Cond.codeWith yL_findStart cL_findStart 4 (some .int) [(0, 9, 12, 24), (0, 9, 15, 15)]) yL_findStart 10 [va_rf x0, .int x1, va_rf x2] h (.inl (some (.int r))) h' :=
  jw_conW (by decide +kernel) (by simp [jw_ent, jw_sl0_nil, jw_sl0_int, jw_sl0_long, jw_sl0_ref, jw_sl0_rf, jw_sl0_scr, List.replicate]) (by simp [jw_sl0_nil, jw_sl0_int, jw_sl0_long, jw_sl0_ref, jw_sl0_rf, jw_sl0_scr]) (l_L_findStart hq)

noncomputable def f_L_findEnd (h : jw_H) (x0 : Option Nat) (x1 : Int32) (x2 : Option Nat) : Option (Int32 × jw_H) :=
 (jw_rc h 11 x0).bind fun a1 =>
 jw_b2 (f_X11_findEnd h a1 x1) fun w2 h2 => match w2 with
  | .inl v => (jw_sl h2 x2 (0 : Int32) v.toInt64).bind fun h3 => some ((0 : Int32), h3)
  | .inr E => if E = "java/lang/IndexOutOfBoundsException" then some ((1 : Int32), h2) else if E = "java/lang/IllegalStateException" then some ((2 : Int32), h2) else none

set_option maxRecDepth 100000 in
set_option maxHeartbeats 4000000 in
theorem l_L_findEnd {hi : jw_H} {h : jw_H} {x0 : Option Nat} {x1 : Int32} {x2 : Option Nat} {r : Int32} {h' : jw_H} (hq : f_L_findEnd h x0 x1 x2 = some (r, h')) : jw_E 10 (yL_findEnd.cls, cL_findEnd, 4, false, some .int, some [(0, 9, 12, 24), (0, 9, 15, 15)], none) hi 0 [some (va_rf x0), some (.int x1), some (va_rf x2), none] [] h (.inl (some (.int r))) h' := by
  unfold f_L_findEnd at hq
  refine jw_aload_n dL_findEnd_0 (o := x2) rfl ?_
  refine jw_iconst dL_findEnd_1 (v := (0 : Int32)) (by decide) ?_
  refine jw_aload_n dL_findEnd_2 (o := x0) rfl ?_
  refine jw_iload_n dL_findEnd_3 rfl ?_
  obtain ⟨a1, ea1, hq⟩ := Option.bind_eq_some_iff.mp hq
  obtain ⟨eo, et⟩ := jw_rc_spec ea1
  obtain ⟨w2, h2, ew, hq⟩ := jw_b2_spec hq
  cases w2 with
  | inl v =>
    refine jw_callV (As := [.int x1]) (S := [.int (0 : Int32), va_rf x2]) (a := a1) (v := some (.int v)) dL_findEnd_4 mt_X11_findEnd in_X11_findEnd se_X11_findEnd lk_L_89 (c_X11_findEnd ew) et (by decide) rfl rfl (by decide) (by simp only [List.map_cons, List.map_nil, List.sum_cons, List.sum_nil, jw_cat_rf, jw_cat_i, jw_cat_l, jw_cat_a, jw_cat_s] <;> decide) (by cases eo; rfl) ?_
    refine jw_i2l dL_findEnd_7 ?_
    obtain ⟨h3, e3, hq⟩ := Option.bind_eq_some_iff.mp hq
    refine jw_last (o := x2) dL_findEnd_8 e3 ?_
    refine jw_goto (tgt := 18) dL_findEnd_9 (by decide) ?_
    refine jw_iconst dL_findEnd_18 (v := (0 : Int32)) (by decide) ?_
    cases hq
    exact jw_iret (ty := .int) dL_findEnd_19 rfl rfl
  | inr E =>
    rcases jw_if hq with ⟨c, hq⟩ | ⟨c, hq⟩
    · subst c
      refine jw_callX (As := [.int x1]) (S := [.int (0 : Int32), va_rf x2]) (a := a1) (n2 := 3) (len := 1) (pre := []) (x := ⟨0, 9, 12, 24⟩) (suf := [⟨0, 9, 15, 15⟩]) (L' := [some (va_rf x0), some (.int x1), some (va_rf x2), none]) (name := "java/lang/IndexOutOfBoundsException") dL_findEnd_4 mt_X11_findEnd in_X11_findEnd se_X11_findEnd lk_L_89 (c_X11_findEnd ew) et (by decide) rfl rfl (by decide) (by simp only [List.map_cons, List.map_nil, List.sum_cons, List.sum_nil, jw_cat_rf, jw_cat_i, jw_cat_l, jw_cat_a, jw_cat_s] <;> decide) (by cases eo; rfl) (tb := [(0, 9, 12, 24), (0, 9, 15, 15)]) rfl rfl (fun z hz => nomatch hz) rfl (by decide) cl_L_24 ca_IndexOutOfBoundsException (Or.inl ⟨3, rfl, rfl, dL_findEnd_12⟩) (Nat.le_of_ble_eq_true rfl) ((congrArg (fun q => q.set 3 none) (jw_clr_of (j := 2) jw_long_rf)).trans rfl) ?_
      refine jw_iconst dL_findEnd_13 (v := (1 : Int32)) (by decide) ?_
      cases hq
      exact jw_iret (ty := .int) dL_findEnd_14 rfl rfl
    · skip
      rcases jw_if hq with ⟨c, hq⟩ | ⟨c, hq⟩
      · subst c
        refine jw_callX (As := [.int x1]) (S := [.int (0 : Int32), va_rf x2]) (a := a1) (n2 := 3) (len := 1) (pre := [⟨0, 9, 12, 24⟩]) (x := ⟨0, 9, 15, 15⟩) (suf := []) (L' := [some (va_rf x0), some (.int x1), some (va_rf x2), none]) (name := "java/lang/IllegalStateException") dL_findEnd_4 mt_X11_findEnd in_X11_findEnd se_X11_findEnd lk_L_89 (c_X11_findEnd ew) et (by decide) rfl rfl (by decide) (by simp only [List.map_cons, List.map_nil, List.sum_cons, List.sum_nil, jw_cat_rf, jw_cat_i, jw_cat_l, jw_cat_a, jw_cat_s] <;> decide) (by cases eo; rfl) (tb := [(0, 9, 12, 24), (0, 9, 15, 15)]) rfl rfl (fun z hz => by rw [List.mem_singleton] at hz; subst hz; exact Or.inr ⟨by decide, "java/lang/IndexOutOfBoundsException", cl_L_24, by decide⟩) rfl (by decide) cl_L_15 ca_IllegalStateException (Or.inl ⟨3, rfl, rfl, dL_findEnd_15⟩) (Nat.le_of_ble_eq_true rfl) ((congrArg (fun q => q.set 3 none) (jw_clr_of (j := 2) jw_long_rf)).trans rfl) ?_
        refine jw_iconst dL_findEnd_16 (v := (2 : Int32)) (by decide) ?_
        cases hq
        exact jw_iret (ty := .int) dL_findEnd_17 rfl rfl
      · skip
        exact nomatch hq
theorem c_L_findEnd {h : jw_H} {x0 : Option Nat} {x1 : Int32} {x2 : Option Nat} {r : Int32} {h' : jw_H} (hq : f_L_findEnd h x0 x1 x2 = some (r, h')) : jw_Con (Cond.codeWith yL_findEnd cL_findEnd 4 (some .int) [(0, 9, 12, 24), (0, 9, 15, 15)]) yL_findEnd 10 [va_rf x0, .int x1, va_rf x2] h (.inl (some (.int r))) h' :=
  jw_conW (by decide +kernel) (by simp [jw_ent, jw_sl0_nil, jw_sl0_int, jw_sl0_long, jw_sl0_ref, jw_sl0_rf, jw_sl0_scr, List.replicate]) (by simp [jw_sl0_nil, jw_sl0_int, jw_sl0_long, jw_sl0_ref, jw_sl0_rf, jw_sl0_scr]) (l_L_findEnd hq)

noncomputable def f_L_differ (h : jw_H) (x0 : Option Nat) (x1 : Int32) (x2 : Option Nat) : Option (Int32 × jw_H) :=
 (jw_rc h 11 x0).bind fun a1 =>
 jw_b2 (f_X11_differ h a1 x1) fun w2 h2 => match w2 with
  | .inl v => (jw_sl h2 x2 (0 : Int32) v.toInt64).bind fun h3 => some ((0 : Int32), h3)
  | .inr E => if E = "java/lang/IndexOutOfBoundsException" then some ((1 : Int32), h2) else none

set_option maxRecDepth 100000 in
set_option maxHeartbeats 4000000 in
theorem l_L_differ {hi : jw_H} {h : jw_H} {x0 : Option Nat} {x1 : Int32} {x2 : Option Nat} {r : Int32} {h' : jw_H} (hq : f_L_differ h x0 x1 x2 = some (r, h')) : jw_E 9 (yL_differ.cls, cL_differ, 4, false, some .int, some [(0, 9, 12, 24)], none) hi 0 [some (va_rf x0), some (.int x1), some (va_rf x2), none] [] h (.inl (some (.int r))) h' := by
  unfold f_L_differ at hq
  refine jw_aload_n dL_differ_0 (o := x2) rfl ?_
  refine jw_iconst dL_differ_1 (v := (0 : Int32)) (by decide) ?_
  refine jw_aload_n dL_differ_2 (o := x0) rfl ?_
  refine jw_iload_n dL_differ_3 rfl ?_
  obtain ⟨a1, ea1, hq⟩ := Option.bind_eq_some_iff.mp hq
  obtain ⟨eo, et⟩ := jw_rc_spec ea1
  obtain ⟨w2, h2, ew, hq⟩ := jw_b2_spec hq
  cases w2 with
  | inl v =>
    refine jw_callV (As := [.int x1]) (S := [.int (0 : Int32), va_rf x2]) (a := a1) (v := some (.int v)) dL_differ_4 mt_X11_differ in_X11_differ se_X11_differ lk_L_92 (c_X11_differ ew) et (by decide) rfl rfl (by decide) (by simp only [List.map_cons, List.map_nil, List.sum_cons, List.sum_nil, jw_cat_rf, jw_cat_i, jw_cat_l, jw_cat_a, jw_cat_s] <;> decide) (by cases eo; rfl) ?_
    refine jw_i2l dL_differ_7 ?_
    obtain ⟨h3, e3, hq⟩ := Option.bind_eq_some_iff.mp hq
    refine jw_last (o := x2) dL_differ_8 e3 ?_
    refine jw_goto (tgt := 15) dL_differ_9 (by decide) ?_
    refine jw_iconst dL_differ_15 (v := (0 : Int32)) (by decide) ?_
    cases hq
    exact jw_iret (ty := .int) dL_differ_16 rfl rfl
  | inr E =>
    rcases jw_if hq with ⟨c, hq⟩ | ⟨c, hq⟩
    · subst c
      refine jw_callX (As := [.int x1]) (S := [.int (0 : Int32), va_rf x2]) (a := a1) (n2 := 3) (len := 1) (pre := []) (x := ⟨0, 9, 12, 24⟩) (suf := []) (L' := [some (va_rf x0), some (.int x1), some (va_rf x2), none]) (name := "java/lang/IndexOutOfBoundsException") dL_differ_4 mt_X11_differ in_X11_differ se_X11_differ lk_L_92 (c_X11_differ ew) et (by decide) rfl rfl (by decide) (by simp only [List.map_cons, List.map_nil, List.sum_cons, List.sum_nil, jw_cat_rf, jw_cat_i, jw_cat_l, jw_cat_a, jw_cat_s] <;> decide) (by cases eo; rfl) (tb := [(0, 9, 12, 24)]) rfl rfl (fun z hz => nomatch hz) rfl (by decide) cl_L_24 ca_IndexOutOfBoundsException (Or.inl ⟨3, rfl, rfl, dL_differ_12⟩) (Nat.le_of_ble_eq_true rfl) ((congrArg (fun q => q.set 3 none) (jw_clr_of (j := 2) jw_long_rf)).trans rfl) ?_
      refine jw_iconst dL_differ_13 (v := (1 : Int32)) (by decide) ?_
      cases hq
      exact jw_iret (ty := .int) dL_differ_14 rfl rfl
    · skip
      exact nomatch hq
theorem c_L_differ {h : jw_H} {x0 : Option Nat} {x1 : Int32} {x2 : Option Nat} {r : Int32} {h' : jw_H} (hq : f_L_differ h x0 x1 x2 = some (r, h')) : jw_Con (Cond.codeWith yL_differ cL_differ 4 (some .int) [(0, 9, 12, 24)]) yL_differ 9 [va_rf x0, .int x1, va_rf x2] h (.inl (some (.int r))) h' :=
  jw_conW (by decide +kernel) (by simp [jw_ent, jw_sl0_nil, jw_sl0_int, jw_sl0_long, jw_sl0_ref, jw_sl0_rf, jw_sl0_scr, List.replicate]) (by simp [jw_sl0_nil, jw_sl0_int, jw_sl0_long, jw_sl0_ref, jw_sl0_rf, jw_sl0_scr]) (l_L_differ hq)

noncomputable def f_L_pairOf (h : jw_H) (x0 : Option Nat) (x1 : Int32) (x2 : Int32) (x3 : Option Nat) : Option (Int32 × jw_H) :=
 (jw_rc h 11 x0).bind fun a1 =>
 jw_b2 (f_X11_pairOf h a1 x1 x2) fun w2 h2 => match w2 with
  | .inl v => (jw_sl h2 x3 (0 : Int32) v.toInt64).bind fun h3 => some ((0 : Int32), h3)
  | .inr E => if E = "java/lang/IndexOutOfBoundsException" then some ((1 : Int32), h2) else none

set_option maxRecDepth 100000 in
set_option maxHeartbeats 4000000 in
theorem l_L_pairOf {hi : jw_H} {h : jw_H} {x0 : Option Nat} {x1 : Int32} {x2 : Int32} {x3 : Option Nat} {r : Int32} {h' : jw_H} (hq : f_L_pairOf h x0 x1 x2 x3 = some (r, h')) : jw_E 9 (yL_pairOf.cls, cL_pairOf, 5, false, some .int, some [(0, 10, 13, 24)], none) hi 0 [some (va_rf x0), some (.int x1), some (.int x2), some (va_rf x3), none] [] h (.inl (some (.int r))) h' := by
  unfold f_L_pairOf at hq
  refine jw_aload_n dL_pairOf_0 (o := x3) rfl ?_
  refine jw_iconst dL_pairOf_1 (v := (0 : Int32)) (by decide) ?_
  refine jw_aload_n dL_pairOf_2 (o := x0) rfl ?_
  refine jw_iload_n dL_pairOf_3 rfl ?_
  refine jw_iload_n dL_pairOf_4 rfl ?_
  obtain ⟨a1, ea1, hq⟩ := Option.bind_eq_some_iff.mp hq
  obtain ⟨eo, et⟩ := jw_rc_spec ea1
  obtain ⟨w2, h2, ew, hq⟩ := jw_b2_spec hq
  cases w2 with
  | inl v =>
    refine jw_callV (As := [.int x1, .int x2]) (S := [.int (0 : Int32), va_rf x3]) (a := a1) (v := some (.int v)) dL_pairOf_5 mt_X11_pairOf in_X11_pairOf se_X11_pairOf lk_L_95 (c_X11_pairOf ew) et (by decide) rfl rfl (by decide) (by simp only [List.map_cons, List.map_nil, List.sum_cons, List.sum_nil, jw_cat_rf, jw_cat_i, jw_cat_l, jw_cat_a, jw_cat_s] <;> decide) (by cases eo; rfl) ?_
    refine jw_i2l dL_pairOf_8 ?_
    obtain ⟨h3, e3, hq⟩ := Option.bind_eq_some_iff.mp hq
    refine jw_last (o := x3) dL_pairOf_9 e3 ?_
    refine jw_goto (tgt := 17) dL_pairOf_10 (by decide) ?_
    refine jw_iconst dL_pairOf_17 (v := (0 : Int32)) (by decide) ?_
    cases hq
    exact jw_iret (ty := .int) dL_pairOf_18 rfl rfl
  | inr E =>
    rcases jw_if hq with ⟨c, hq⟩ | ⟨c, hq⟩
    · subst c
      refine jw_callX (As := [.int x1, .int x2]) (S := [.int (0 : Int32), va_rf x3]) (a := a1) (n2 := 4) (len := 2) (pre := []) (x := ⟨0, 10, 13, 24⟩) (suf := []) (L' := [some (va_rf x0), some (.int x1), some (.int x2), some (va_rf x3), none]) (name := "java/lang/IndexOutOfBoundsException") dL_pairOf_5 mt_X11_pairOf in_X11_pairOf se_X11_pairOf lk_L_95 (c_X11_pairOf ew) et (by decide) rfl rfl (by decide) (by simp only [List.map_cons, List.map_nil, List.sum_cons, List.sum_nil, jw_cat_rf, jw_cat_i, jw_cat_l, jw_cat_a, jw_cat_s] <;> decide) (by cases eo; rfl) (tb := [(0, 10, 13, 24)]) rfl rfl (fun z hz => nomatch hz) rfl (by decide) cl_L_24 ca_IndexOutOfBoundsException (Or.inr ⟨rfl, dL_pairOf_13⟩) (Nat.le_of_ble_eq_true rfl) ((congrArg (fun q => q.set 4 none) (jw_clr_of (j := 3) jw_long_rf)).trans rfl) ?_
      refine jw_iconst dL_pairOf_15 (v := (1 : Int32)) (by decide) ?_
      cases hq
      exact jw_iret (ty := .int) dL_pairOf_16 rfl rfl
    · skip
      exact nomatch hq
theorem c_L_pairOf {h : jw_H} {x0 : Option Nat} {x1 : Int32} {x2 : Int32} {x3 : Option Nat} {r : Int32} {h' : jw_H} (hq : f_L_pairOf h x0 x1 x2 x3 = some (r, h')) : jw_Con (Cond.codeWith yL_pairOf cL_pairOf 5 (some .int) [(0, 10, 13, 24)]) yL_pairOf 9 [va_rf x0, .int x1, .int x2, va_rf x3] h (.inl (some (.int r))) h' :=
  jw_conW (by decide +kernel) (by simp [jw_ent, jw_sl0_nil, jw_sl0_int, jw_sl0_long, jw_sl0_ref, jw_sl0_rf, jw_sl0_scr, List.replicate]) (by simp [jw_sl0_nil, jw_sl0_int, jw_sl0_long, jw_sl0_ref, jw_sl0_rf, jw_sl0_scr]) (l_L_pairOf hq)

abbrev uL_law (Ls : Nat) (xs : Nat → Int32) : jw_U := (RL, cL_law, 7, false, some .boolean, none, some (Ls, xs))

noncomputable def g_L_law_b1916 (Ls : Nat) (xs : Nat → Int32) (k23 : jw_H → Nat → Nat → Option Nat → Int32 → Option (Int32 × jw_H)) (h : jw_H) (x1 : Nat) (x2 : Nat) (x3 : Option Nat) (x4 : Int32) : Option (Int32 × jw_H) :=
 k23 h x1 x2 x3 (x4 + (4 : Int32))

noncomputable def g_L_law_b257 (Ls : Nat) (xs : Nat → Int32) (k23 : jw_H → Nat → Nat → Option Nat → Int32 → Option (Int32 × jw_H)) (h : jw_H) (x1 : Nat) (x2 : Nat) (x3 : Option Nat) (x4 : Int32) : Option (Int32 × jw_H) :=
 g_L_law_b1916 Ls xs k23 h x1 x2 x3 x4

noncomputable def g_L_law_b204 (Ls : Nat) (xs : Nat → Int32) (k23 : jw_H → Nat → Nat → Option Nat → Int32 → Option (Int32 × jw_H)) (h : jw_H) (x1 : Nat) (x2 : Nat) (x3 : Option Nat) (x4 : Int32) : Option (Int32 × jw_H) :=
 (jw_xs Ls xs (x4 + (1 : Int32))).bind fun v1 =>
 jw_b2 (f_L_type h (some x1) v1 x3) fun w3 h2 =>
 (jw_xs Ls xs (x4 + (1 : Int32))).bind fun v4 =>
 (jw_rc h2 12 (some x2)).bind fun a5 =>
 jw_b2 (f_X12_type h2 a5 v4) fun w7 h6 =>
 (jw_rc h6 12 (some x2)).bind fun a8 =>
 jw_b2 (f_X12_thrown h6 a8) fun w10 h9 =>
 if w10 = w3 then (if w3 = 0 then ((jw_al h9 x3 (0 : Int32)).bind fun v13 =>
 if (lg_cmp v13 w7.toInt64) = 0 then (g_L_law_b257 Ls xs k23 h9 x1 x2 x3 x4)
 else (some ((0 : Int32), h9)))
 else (g_L_law_b257 Ls xs k23 h9 x1 x2 x3 x4))
 else (some ((0 : Int32), h9))

noncomputable def g_L_law_b260 (Ls : Nat) (xs : Nat → Int32) (k23 : jw_H → Nat → Nat → Option Nat → Int32 → Option (Int32 × jw_H)) (h : jw_H) (x1 : Nat) (x2 : Nat) (x3 : Option Nat) (x4 : Int32) : Option (Int32 × jw_H) :=
 (jw_rc h 11 (some x1)).bind fun a1 =>
 jw_b2 (f_X11_wipe h a1) fun w3 h2 =>
 (jw_rc h2 12 (some x2)).bind fun a4 =>
 jw_b2 (f_X12_wipe h2 a4) fun w6 h5 =>
 if w3 = w6 then (g_L_law_b1916 Ls xs k23 h5 x1 x2 x3 x4)
 else (some ((0 : Int32), h5))

noncomputable def g_L_law_b273 (Ls : Nat) (xs : Nat → Int32) (k23 : jw_H → Nat → Nat → Option Nat → Int32 → Option (Int32 × jw_H)) (h : jw_H) (x1 : Nat) (x2 : Nat) (x3 : Option Nat) (x4 : Int32) : Option (Int32 × jw_H) :=
 (jw_rc h 11 (some x1)).bind fun a1 =>
 jw_b2 (f_X11_fault h a1) fun w3 h2 =>
 (jw_rc h2 12 (some x2)).bind fun a4 =>
 jw_b2 (f_X12_fault h2 a4) fun w6 h5 =>
 if w3 = w6 then (g_L_law_b1916 Ls xs k23 h5 x1 x2 x3 x4)
 else (some ((0 : Int32), h5))

noncomputable def g_L_law_b286 (Ls : Nat) (xs : Nat → Int32) (k23 : jw_H → Nat → Nat → Option Nat → Int32 → Option (Int32 × jw_H)) (h : jw_H) (x1 : Nat) (x2 : Nat) (x3 : Option Nat) (x4 : Int32) : Option (Int32 × jw_H) :=
 (jw_rc h 11 (some x1)).bind fun a1 =>
 jw_b2 (f_X11_patternFault h a1) fun w3 h2 =>
 (jw_rc h2 12 (some x2)).bind fun a4 =>
 jw_b2 (f_X12_patternFault h2 a4) fun w6 h5 =>
 if w3 = w6 then (g_L_law_b1916 Ls xs k23 h5 x1 x2 x3 x4)
 else (some ((0 : Int32), h5))

noncomputable def g_L_law_b340 (Ls : Nat) (xs : Nat → Int32) (k23 : jw_H → Nat → Nat → Option Nat → Int32 → Option (Int32 × jw_H)) (h : jw_H) (x1 : Nat) (x2 : Nat) (x3 : Option Nat) (x4 : Int32) : Option (Int32 × jw_H) :=
 g_L_law_b1916 Ls xs k23 h x1 x2 x3 x4

noncomputable def g_L_law_b299 (Ls : Nat) (xs : Nat → Int32) (k23 : jw_H → Nat → Nat → Option Nat → Int32 → Option (Int32 × jw_H)) (h : jw_H) (x1 : Nat) (x2 : Nat) (x3 : Option Nat) (x4 : Int32) : Option (Int32 × jw_H) :=
 jw_b2 (f_L_run h (some x1) x3) fun w2 h1 =>
 (jw_rc h1 12 (some x2)).bind fun a3 =>
 jw_b2 (f_X12_run h1 a3) fun w5 h4 =>
 (jw_rc h4 12 (some x2)).bind fun a6 =>
 jw_b2 (f_X12_thrown h4 a6) fun w8 h7 =>
 if w8 = w2 then (if w2 = 0 then ((jw_al h7 x3 (0 : Int32)).bind fun v11 =>
 if (lg_cmp v11 w5.toInt64) = 0 then (g_L_law_b340 Ls xs k23 h7 x1 x2 x3 x4)
 else (some ((0 : Int32), h7)))
 else (g_L_law_b340 Ls xs k23 h7 x1 x2 x3 x4))
 else (some ((0 : Int32), h7))

noncomputable def g_L_law_b396 (Ls : Nat) (xs : Nat → Int32) (k23 : jw_H → Nat → Nat → Option Nat → Int32 → Option (Int32 × jw_H)) (h : jw_H) (x1 : Nat) (x2 : Nat) (x3 : Option Nat) (x4 : Int32) : Option (Int32 × jw_H) :=
 g_L_law_b1916 Ls xs k23 h x1 x2 x3 x4

noncomputable def g_L_law_b343 (Ls : Nat) (xs : Nat → Int32) (k23 : jw_H → Nat → Nat → Option Nat → Int32 → Option (Int32 × jw_H)) (h : jw_H) (x1 : Nat) (x2 : Nat) (x3 : Option Nat) (x4 : Int32) : Option (Int32 × jw_H) :=
 (jw_xs Ls xs (x4 + (1 : Int32))).bind fun v1 =>
 jw_b2 (f_L_keep h (some x1) v1 x3) fun w3 h2 =>
 (jw_xs Ls xs (x4 + (1 : Int32))).bind fun v4 =>
 (jw_rc h2 12 (some x2)).bind fun a5 =>
 jw_b2 (f_X12_keep h2 a5 v4) fun w7 h6 =>
 (jw_rc h6 12 (some x2)).bind fun a8 =>
 jw_b2 (f_X12_thrown h6 a8) fun w10 h9 =>
 if w10 = w3 then (if w3 = 0 then ((jw_al h9 x3 (0 : Int32)).bind fun v13 =>
 if (lg_cmp v13 w7.toInt64) = 0 then (g_L_law_b396 Ls xs k23 h9 x1 x2 x3 x4)
 else (some ((0 : Int32), h9)))
 else (g_L_law_b396 Ls xs k23 h9 x1 x2 x3 x4))
 else (some ((0 : Int32), h9))

noncomputable def g_L_law_b452 (Ls : Nat) (xs : Nat → Int32) (k23 : jw_H → Nat → Nat → Option Nat → Int32 → Option (Int32 × jw_H)) (h : jw_H) (x1 : Nat) (x2 : Nat) (x3 : Option Nat) (x4 : Int32) : Option (Int32 × jw_H) :=
 g_L_law_b1916 Ls xs k23 h x1 x2 x3 x4

noncomputable def g_L_law_b399 (Ls : Nat) (xs : Nat → Int32) (k23 : jw_H → Nat → Nat → Option Nat → Int32 → Option (Int32 × jw_H)) (h : jw_H) (x1 : Nat) (x2 : Nat) (x3 : Option Nat) (x4 : Int32) : Option (Int32 × jw_H) :=
 (jw_xs Ls xs (x4 + (1 : Int32))).bind fun v1 =>
 jw_b2 (f_L_play h (some x1) v1 x3) fun w3 h2 =>
 (jw_xs Ls xs (x4 + (1 : Int32))).bind fun v4 =>
 (jw_rc h2 12 (some x2)).bind fun a5 =>
 jw_b2 (f_X12_play h2 a5 v4) fun w7 h6 =>
 (jw_rc h6 12 (some x2)).bind fun a8 =>
 jw_b2 (f_X12_thrown h6 a8) fun w10 h9 =>
 if w10 = w3 then (if w3 = 0 then ((jw_al h9 x3 (0 : Int32)).bind fun v13 =>
 if (lg_cmp v13 w7.toInt64) = 0 then (g_L_law_b452 Ls xs k23 h9 x1 x2 x3 x4)
 else (some ((0 : Int32), h9)))
 else (g_L_law_b452 Ls xs k23 h9 x1 x2 x3 x4))
 else (some ((0 : Int32), h9))

noncomputable def g_L_law_b508 (Ls : Nat) (xs : Nat → Int32) (k23 : jw_H → Nat → Nat → Option Nat → Int32 → Option (Int32 × jw_H)) (h : jw_H) (x1 : Nat) (x2 : Nat) (x3 : Option Nat) (x4 : Int32) : Option (Int32 × jw_H) :=
 g_L_law_b1916 Ls xs k23 h x1 x2 x3 x4

noncomputable def g_L_law_b455 (Ls : Nat) (xs : Nat → Int32) (k23 : jw_H → Nat → Nat → Option Nat → Int32 → Option (Int32 × jw_H)) (h : jw_H) (x1 : Nat) (x2 : Nat) (x3 : Option Nat) (x4 : Int32) : Option (Int32 × jw_H) :=
 (jw_xs Ls xs (x4 + (1 : Int32))).bind fun v1 =>
 jw_b2 (f_L_stream h (some x1) v1 x3) fun w3 h2 =>
 (jw_xs Ls xs (x4 + (1 : Int32))).bind fun v4 =>
 (jw_rc h2 12 (some x2)).bind fun a5 =>
 jw_b2 (f_X12_stream h2 a5 v4) fun w7 h6 =>
 (jw_rc h6 12 (some x2)).bind fun a8 =>
 jw_b2 (f_X12_thrown h6 a8) fun w10 h9 =>
 if w10 = w3 then (if w3 = 0 then ((jw_al h9 x3 (0 : Int32)).bind fun v13 =>
 if (lg_cmp v13 w7.toInt64) = 0 then (g_L_law_b508 Ls xs k23 h9 x1 x2 x3 x4)
 else (some ((0 : Int32), h9)))
 else (g_L_law_b508 Ls xs k23 h9 x1 x2 x3 x4))
 else (some ((0 : Int32), h9))

noncomputable def g_L_law_b511 (Ls : Nat) (xs : Nat → Int32) (k23 : jw_H → Nat → Nat → Option Nat → Int32 → Option (Int32 × jw_H)) (h : jw_H) (x1 : Nat) (x2 : Nat) (x3 : Option Nat) (x4 : Int32) : Option (Int32 × jw_H) :=
 (jw_rc h 11 (some x1)).bind fun a1 =>
 jw_b2 (f_X11_reason h a1) fun w3 h2 =>
 (jw_rc h2 12 (some x2)).bind fun a4 =>
 jw_b2 (f_X12_reason h2 a4) fun w6 h5 =>
 if w3 = w6 then (g_L_law_b1916 Ls xs k23 h5 x1 x2 x3 x4)
 else (some ((0 : Int32), h5))

noncomputable def g_L_law_b577 (Ls : Nat) (xs : Nat → Int32) (k23 : jw_H → Nat → Nat → Option Nat → Int32 → Option (Int32 × jw_H)) (h : jw_H) (x1 : Nat) (x2 : Nat) (x3 : Option Nat) (x4 : Int32) : Option (Int32 × jw_H) :=
 g_L_law_b1916 Ls xs k23 h x1 x2 x3 x4

noncomputable def g_L_law_b524 (Ls : Nat) (xs : Nat → Int32) (k23 : jw_H → Nat → Nat → Option Nat → Int32 → Option (Int32 × jw_H)) (h : jw_H) (x1 : Nat) (x2 : Nat) (x3 : Option Nat) (x4 : Int32) : Option (Int32 × jw_H) :=
 (jw_xs Ls xs (x4 + (1 : Int32))).bind fun v1 =>
 jw_b2 (f_L_scriptLength h (some x1) v1 x3) fun w3 h2 =>
 (jw_xs Ls xs (x4 + (1 : Int32))).bind fun v4 =>
 (jw_rc h2 12 (some x2)).bind fun a5 =>
 jw_b2 (f_X12_scriptLength h2 a5 v4) fun w7 h6 =>
 (jw_rc h6 12 (some x2)).bind fun a8 =>
 jw_b2 (f_X12_thrown h6 a8) fun w10 h9 =>
 if w10 = w3 then (if w3 = 0 then ((jw_al h9 x3 (0 : Int32)).bind fun v13 =>
 if (lg_cmp v13 w7.toInt64) = 0 then (g_L_law_b577 Ls xs k23 h9 x1 x2 x3 x4)
 else (some ((0 : Int32), h9)))
 else (g_L_law_b577 Ls xs k23 h9 x1 x2 x3 x4))
 else (some ((0 : Int32), h9))

noncomputable def g_L_law_b645 (Ls : Nat) (xs : Nat → Int32) (k23 : jw_H → Nat → Nat → Option Nat → Int32 → Option (Int32 × jw_H)) (h : jw_H) (x1 : Nat) (x2 : Nat) (x3 : Option Nat) (x4 : Int32) : Option (Int32 × jw_H) :=
 g_L_law_b1916 Ls xs k23 h x1 x2 x3 x4

noncomputable def g_L_law_b580 (Ls : Nat) (xs : Nat → Int32) (k23 : jw_H → Nat → Nat → Option Nat → Int32 → Option (Int32 × jw_H)) (h : jw_H) (x1 : Nat) (x2 : Nat) (x3 : Option Nat) (x4 : Int32) : Option (Int32 × jw_H) :=
 (jw_xs Ls xs (x4 + (1 : Int32))).bind fun v1 =>
 (jw_xs Ls xs (x4 + (2 : Int32))).bind fun v2 =>
 jw_b2 (f_L_scriptAt h (some x1) v1 v2 x3) fun w4 h3 =>
 (jw_xs Ls xs (x4 + (1 : Int32))).bind fun v5 =>
 (jw_xs Ls xs (x4 + (2 : Int32))).bind fun v6 =>
 (jw_rc h3 12 (some x2)).bind fun a7 =>
 jw_b2 (f_X12_scriptAt h3 a7 v5 v6) fun w9 h8 =>
 (jw_rc h8 12 (some x2)).bind fun a10 =>
 jw_b2 (f_X12_thrown h8 a10) fun w12 h11 =>
 if w12 = w4 then (if w4 = 0 then ((jw_al h11 x3 (0 : Int32)).bind fun v15 =>
 if (lg_cmp v15 w9.toInt64) = 0 then (g_L_law_b645 Ls xs k23 h11 x1 x2 x3 x4)
 else (some ((0 : Int32), h11)))
 else (g_L_law_b645 Ls xs k23 h11 x1 x2 x3 x4))
 else (some ((0 : Int32), h11))

noncomputable def g_L_law_b689 (Ls : Nat) (xs : Nat → Int32) (k23 : jw_H → Nat → Nat → Option Nat → Int32 → Option (Int32 × jw_H)) (h : jw_H) (x1 : Nat) (x2 : Nat) (x3 : Option Nat) (x4 : Int32) : Option (Int32 × jw_H) :=
 g_L_law_b1916 Ls xs k23 h x1 x2 x3 x4

noncomputable def g_L_law_b648 (Ls : Nat) (xs : Nat → Int32) (k23 : jw_H → Nat → Nat → Option Nat → Int32 → Option (Int32 × jw_H)) (h : jw_H) (x1 : Nat) (x2 : Nat) (x3 : Option Nat) (x4 : Int32) : Option (Int32 × jw_H) :=
 jw_b2 (f_L_undo h (some x1) x3) fun w2 h1 =>
 (jw_rc h1 12 (some x2)).bind fun a3 =>
 jw_b2 (f_X12_undo h1 a3) fun w5 h4 =>
 (jw_rc h4 12 (some x2)).bind fun a6 =>
 jw_b2 (f_X12_thrown h4 a6) fun w8 h7 =>
 if w8 = w2 then (if w2 = 0 then ((jw_al h7 x3 (0 : Int32)).bind fun v11 =>
 if (lg_cmp v11 w5.toInt64) = 0 then (g_L_law_b689 Ls xs k23 h7 x1 x2 x3 x4)
 else (some ((0 : Int32), h7)))
 else (g_L_law_b689 Ls xs k23 h7 x1 x2 x3 x4))
 else (some ((0 : Int32), h7))

noncomputable def g_L_law_b733 (Ls : Nat) (xs : Nat → Int32) (k23 : jw_H → Nat → Nat → Option Nat → Int32 → Option (Int32 × jw_H)) (h : jw_H) (x1 : Nat) (x2 : Nat) (x3 : Option Nat) (x4 : Int32) : Option (Int32 × jw_H) :=
 g_L_law_b1916 Ls xs k23 h x1 x2 x3 x4

noncomputable def g_L_law_b692 (Ls : Nat) (xs : Nat → Int32) (k23 : jw_H → Nat → Nat → Option Nat → Int32 → Option (Int32 × jw_H)) (h : jw_H) (x1 : Nat) (x2 : Nat) (x3 : Option Nat) (x4 : Int32) : Option (Int32 × jw_H) :=
 jw_b2 (f_L_undoRun h (some x1) x3) fun w2 h1 =>
 (jw_rc h1 12 (some x2)).bind fun a3 =>
 jw_b2 (f_X12_undoRun h1 a3) fun w5 h4 =>
 (jw_rc h4 12 (some x2)).bind fun a6 =>
 jw_b2 (f_X12_thrown h4 a6) fun w8 h7 =>
 if w8 = w2 then (if w2 = 0 then ((jw_al h7 x3 (0 : Int32)).bind fun v11 =>
 if (lg_cmp v11 w5.toInt64) = 0 then (g_L_law_b733 Ls xs k23 h7 x1 x2 x3 x4)
 else (some ((0 : Int32), h7)))
 else (g_L_law_b733 Ls xs k23 h7 x1 x2 x3 x4))
 else (some ((0 : Int32), h7))

noncomputable def g_L_law_b736 (Ls : Nat) (xs : Nat → Int32) (k23 : jw_H → Nat → Nat → Option Nat → Int32 → Option (Int32 × jw_H)) (h : jw_H) (x1 : Nat) (x2 : Nat) (x3 : Option Nat) (x4 : Int32) : Option (Int32 × jw_H) :=
 (jw_rc h 11 (some x1)).bind fun a1 =>
 jw_b2 (f_X11_deeds h a1) fun w3 h2 =>
 (jw_rc h2 12 (some x2)).bind fun a4 =>
 jw_b2 (f_X12_deeds h2 a4) fun w6 h5 =>
 if w3 = w6 then (g_L_law_b1916 Ls xs k23 h5 x1 x2 x3 x4)
 else (some ((0 : Int32), h5))

noncomputable def g_L_law_b749 (Ls : Nat) (xs : Nat → Int32) (k23 : jw_H → Nat → Nat → Option Nat → Int32 → Option (Int32 × jw_H)) (h : jw_H) (x1 : Nat) (x2 : Nat) (x3 : Option Nat) (x4 : Int32) : Option (Int32 × jw_H) :=
 (jw_rc h 11 (some x1)).bind fun a1 =>
 jw_b2 (f_X11_lines h a1) fun w3 h2 =>
 (jw_rc h2 12 (some x2)).bind fun a4 =>
 jw_b2 (f_X12_lines h2 a4) fun w6 h5 =>
 if w3 = w6 then (g_L_law_b1916 Ls xs k23 h5 x1 x2 x3 x4)
 else (some ((0 : Int32), h5))

noncomputable def g_L_law_b815 (Ls : Nat) (xs : Nat → Int32) (k23 : jw_H → Nat → Nat → Option Nat → Int32 → Option (Int32 × jw_H)) (h : jw_H) (x1 : Nat) (x2 : Nat) (x3 : Option Nat) (x4 : Int32) : Option (Int32 × jw_H) :=
 g_L_law_b1916 Ls xs k23 h x1 x2 x3 x4

noncomputable def g_L_law_b762 (Ls : Nat) (xs : Nat → Int32) (k23 : jw_H → Nat → Nat → Option Nat → Int32 → Option (Int32 × jw_H)) (h : jw_H) (x1 : Nat) (x2 : Nat) (x3 : Option Nat) (x4 : Int32) : Option (Int32 × jw_H) :=
 (jw_xs Ls xs (x4 + (1 : Int32))).bind fun v1 =>
 jw_b2 (f_L_length h (some x1) v1 x3) fun w3 h2 =>
 (jw_xs Ls xs (x4 + (1 : Int32))).bind fun v4 =>
 (jw_rc h2 12 (some x2)).bind fun a5 =>
 jw_b2 (f_X12_length h2 a5 v4) fun w7 h6 =>
 (jw_rc h6 12 (some x2)).bind fun a8 =>
 jw_b2 (f_X12_thrown h6 a8) fun w10 h9 =>
 if w10 = w3 then (if w3 = 0 then ((jw_al h9 x3 (0 : Int32)).bind fun v13 =>
 if (lg_cmp v13 w7.toInt64) = 0 then (g_L_law_b815 Ls xs k23 h9 x1 x2 x3 x4)
 else (some ((0 : Int32), h9)))
 else (g_L_law_b815 Ls xs k23 h9 x1 x2 x3 x4))
 else (some ((0 : Int32), h9))

noncomputable def g_L_law_b883 (Ls : Nat) (xs : Nat → Int32) (k23 : jw_H → Nat → Nat → Option Nat → Int32 → Option (Int32 × jw_H)) (h : jw_H) (x1 : Nat) (x2 : Nat) (x3 : Option Nat) (x4 : Int32) : Option (Int32 × jw_H) :=
 g_L_law_b1916 Ls xs k23 h x1 x2 x3 x4

noncomputable def g_L_law_b818 (Ls : Nat) (xs : Nat → Int32) (k23 : jw_H → Nat → Nat → Option Nat → Int32 → Option (Int32 × jw_H)) (h : jw_H) (x1 : Nat) (x2 : Nat) (x3 : Option Nat) (x4 : Int32) : Option (Int32 × jw_H) :=
 (jw_xs Ls xs (x4 + (1 : Int32))).bind fun v1 =>
 (jw_xs Ls xs (x4 + (2 : Int32))).bind fun v2 =>
 jw_b2 (f_L_at h (some x1) v1 v2 x3) fun w4 h3 =>
 (jw_xs Ls xs (x4 + (1 : Int32))).bind fun v5 =>
 (jw_xs Ls xs (x4 + (2 : Int32))).bind fun v6 =>
 (jw_rc h3 12 (some x2)).bind fun a7 =>
 jw_b2 (f_X12_at h3 a7 v5 v6) fun w9 h8 =>
 (jw_rc h8 12 (some x2)).bind fun a10 =>
 jw_b2 (f_X12_thrown h8 a10) fun w12 h11 =>
 if w12 = w4 then (if w4 = 0 then ((jw_al h11 x3 (0 : Int32)).bind fun v15 =>
 if (lg_cmp v15 w9.toInt64) = 0 then (g_L_law_b883 Ls xs k23 h11 x1 x2 x3 x4)
 else (some ((0 : Int32), h11)))
 else (g_L_law_b883 Ls xs k23 h11 x1 x2 x3 x4))
 else (some ((0 : Int32), h11))

noncomputable def g_L_law_b939 (Ls : Nat) (xs : Nat → Int32) (k23 : jw_H → Nat → Nat → Option Nat → Int32 → Option (Int32 × jw_H)) (h : jw_H) (x1 : Nat) (x2 : Nat) (x3 : Option Nat) (x4 : Int32) : Option (Int32 × jw_H) :=
 g_L_law_b1916 Ls xs k23 h x1 x2 x3 x4

noncomputable def g_L_law_b886 (Ls : Nat) (xs : Nat → Int32) (k23 : jw_H → Nat → Nat → Option Nat → Int32 → Option (Int32 × jw_H)) (h : jw_H) (x1 : Nat) (x2 : Nat) (x3 : Option Nat) (x4 : Int32) : Option (Int32 × jw_H) :=
 (jw_xs Ls xs (x4 + (1 : Int32))).bind fun v1 =>
 jw_b2 (f_L_id h (some x1) v1 x3) fun w3 h2 =>
 (jw_xs Ls xs (x4 + (1 : Int32))).bind fun v4 =>
 (jw_rc h2 12 (some x2)).bind fun a5 =>
 jw_b2 (f_X12_id h2 a5 v4) fun w7 h6 =>
 (jw_rc h6 12 (some x2)).bind fun a8 =>
 jw_b2 (f_X12_thrown h6 a8) fun w10 h9 =>
 if w10 = w3 then (if w3 = 0 then ((jw_al h9 x3 (0 : Int32)).bind fun v13 =>
 if (lg_cmp v13 w7.toInt64) = 0 then (g_L_law_b939 Ls xs k23 h9 x1 x2 x3 x4)
 else (some ((0 : Int32), h9)))
 else (g_L_law_b939 Ls xs k23 h9 x1 x2 x3 x4))
 else (some ((0 : Int32), h9))

noncomputable def g_L_law_b942 (Ls : Nat) (xs : Nat → Int32) (k23 : jw_H → Nat → Nat → Option Nat → Int32 → Option (Int32 × jw_H)) (h : jw_H) (x1 : Nat) (x2 : Nat) (x3 : Option Nat) (x4 : Int32) : Option (Int32 × jw_H) :=
 (jw_xs Ls xs (x4 + (1 : Int32))).bind fun v1 =>
 (jw_rc h 11 (some x1)).bind fun a2 =>
 jw_b2 (f_X11_lineOf h a2 v1) fun w4 h3 =>
 (jw_xs Ls xs (x4 + (1 : Int32))).bind fun v5 =>
 (jw_rc h3 12 (some x2)).bind fun a6 =>
 jw_b2 (f_X12_lineOf h3 a6 v5) fun w8 h7 =>
 if w4 = w8 then (g_L_law_b1916 Ls xs k23 h7 x1 x2 x3 x4)
 else (some ((0 : Int32), h7))

noncomputable def g_L_law_b967 (Ls : Nat) (xs : Nat → Int32) (k23 : jw_H → Nat → Nat → Option Nat → Int32 → Option (Int32 × jw_H)) (h : jw_H) (x1 : Nat) (x2 : Nat) (x3 : Option Nat) (x4 : Int32) : Option (Int32 × jw_H) :=
 (jw_rc h 11 (some x1)).bind fun a1 =>
 jw_b2 (f_X11_present h a1) fun w3 h2 =>
 (jw_rc h2 12 (some x2)).bind fun a4 =>
 jw_b2 (f_X12_present h2 a4) fun w6 h5 =>
 if w3 = w6 then (g_L_law_b1916 Ls xs k23 h5 x1 x2 x3 x4)
 else (some ((0 : Int32), h5))

noncomputable def g_L_law_b1033 (Ls : Nat) (xs : Nat → Int32) (k23 : jw_H → Nat → Nat → Option Nat → Int32 → Option (Int32 × jw_H)) (h : jw_H) (x1 : Nat) (x2 : Nat) (x3 : Option Nat) (x4 : Int32) : Option (Int32 × jw_H) :=
 g_L_law_b1916 Ls xs k23 h x1 x2 x3 x4

noncomputable def g_L_law_b980 (Ls : Nat) (xs : Nat → Int32) (k23 : jw_H → Nat → Nat → Option Nat → Int32 → Option (Int32 × jw_H)) (h : jw_H) (x1 : Nat) (x2 : Nat) (x3 : Option Nat) (x4 : Int32) : Option (Int32 × jw_H) :=
 (jw_xs Ls xs (x4 + (1 : Int32))).bind fun v1 =>
 jw_b2 (f_L_mark h (some x1) v1 x3) fun w3 h2 =>
 (jw_xs Ls xs (x4 + (1 : Int32))).bind fun v4 =>
 (jw_rc h2 12 (some x2)).bind fun a5 =>
 jw_b2 (f_X12_mark h2 a5 v4) fun w7 h6 =>
 (jw_rc h6 12 (some x2)).bind fun a8 =>
 jw_b2 (f_X12_thrown h6 a8) fun w10 h9 =>
 if w10 = w3 then (if w3 = 0 then ((jw_al h9 x3 (0 : Int32)).bind fun v13 =>
 if (lg_cmp v13 w7.toInt64) = 0 then (g_L_law_b1033 Ls xs k23 h9 x1 x2 x3 x4)
 else (some ((0 : Int32), h9)))
 else (g_L_law_b1033 Ls xs k23 h9 x1 x2 x3 x4))
 else (some ((0 : Int32), h9))

noncomputable def g_L_law_b1101 (Ls : Nat) (xs : Nat → Int32) (k23 : jw_H → Nat → Nat → Option Nat → Int32 → Option (Int32 × jw_H)) (h : jw_H) (x1 : Nat) (x2 : Nat) (x3 : Option Nat) (x4 : Int32) : Option (Int32 × jw_H) :=
 g_L_law_b1916 Ls xs k23 h x1 x2 x3 x4

noncomputable def g_L_law_b1036 (Ls : Nat) (xs : Nat → Int32) (k23 : jw_H → Nat → Nat → Option Nat → Int32 → Option (Int32 × jw_H)) (h : jw_H) (x1 : Nat) (x2 : Nat) (x3 : Option Nat) (x4 : Int32) : Option (Int32 × jw_H) :=
 (jw_xs Ls xs (x4 + (1 : Int32))).bind fun v1 =>
 (jw_xs Ls xs (x4 + (2 : Int32))).bind fun v2 =>
 jw_b2 (f_L_sample h (some x1) v1 v2 x3) fun w4 h3 =>
 (jw_xs Ls xs (x4 + (1 : Int32))).bind fun v5 =>
 (jw_xs Ls xs (x4 + (2 : Int32))).bind fun v6 =>
 (jw_rc h3 12 (some x2)).bind fun a7 =>
 jw_b2 (f_X12_sample h3 a7 v5 v6) fun w9 h8 =>
 (jw_rc h8 12 (some x2)).bind fun a10 =>
 jw_b2 (f_X12_thrown h8 a10) fun w12 h11 =>
 if w12 = w4 then (if w4 = 0 then ((jw_al h11 x3 (0 : Int32)).bind fun v15 =>
 if (lg_cmp v15 w9.toInt64) = 0 then (g_L_law_b1101 Ls xs k23 h11 x1 x2 x3 x4)
 else (some ((0 : Int32), h11)))
 else (g_L_law_b1101 Ls xs k23 h11 x1 x2 x3 x4))
 else (some ((0 : Int32), h11))

noncomputable def g_L_law_b1104 (Ls : Nat) (xs : Nat → Int32) (k23 : jw_H → Nat → Nat → Option Nat → Int32 → Option (Int32 × jw_H)) (h : jw_H) (x1 : Nat) (x2 : Nat) (x3 : Option Nat) (x4 : Int32) : Option (Int32 × jw_H) :=
 (jw_rc h 11 (some x1)).bind fun a1 =>
 jw_b2 (f_X11_held h a1) fun w3 h2 =>
 (jw_rc h2 12 (some x2)).bind fun a4 =>
 jw_b2 (f_X12_held h2 a4) fun w6 h5 =>
 if w3 = w6 then (g_L_law_b1916 Ls xs k23 h5 x1 x2 x3 x4)
 else (some ((0 : Int32), h5))

noncomputable def g_L_law_b1170 (Ls : Nat) (xs : Nat → Int32) (k23 : jw_H → Nat → Nat → Option Nat → Int32 → Option (Int32 × jw_H)) (h : jw_H) (x1 : Nat) (x2 : Nat) (x3 : Option Nat) (x4 : Int32) : Option (Int32 × jw_H) :=
 g_L_law_b1916 Ls xs k23 h x1 x2 x3 x4

noncomputable def g_L_law_b1117 (Ls : Nat) (xs : Nat → Int32) (k23 : jw_H → Nat → Nat → Option Nat → Int32 → Option (Int32 × jw_H)) (h : jw_H) (x1 : Nat) (x2 : Nat) (x3 : Option Nat) (x4 : Int32) : Option (Int32 × jw_H) :=
 (jw_xs Ls xs (x4 + (1 : Int32))).bind fun v1 =>
 jw_b2 (f_L_heldLength h (some x1) v1 x3) fun w3 h2 =>
 (jw_xs Ls xs (x4 + (1 : Int32))).bind fun v4 =>
 (jw_rc h2 12 (some x2)).bind fun a5 =>
 jw_b2 (f_X12_heldLength h2 a5 v4) fun w7 h6 =>
 (jw_rc h6 12 (some x2)).bind fun a8 =>
 jw_b2 (f_X12_thrown h6 a8) fun w10 h9 =>
 if w10 = w3 then (if w3 = 0 then ((jw_al h9 x3 (0 : Int32)).bind fun v13 =>
 if (lg_cmp v13 w7.toInt64) = 0 then (g_L_law_b1170 Ls xs k23 h9 x1 x2 x3 x4)
 else (some ((0 : Int32), h9)))
 else (g_L_law_b1170 Ls xs k23 h9 x1 x2 x3 x4))
 else (some ((0 : Int32), h9))

noncomputable def g_L_law_b1238 (Ls : Nat) (xs : Nat → Int32) (k23 : jw_H → Nat → Nat → Option Nat → Int32 → Option (Int32 × jw_H)) (h : jw_H) (x1 : Nat) (x2 : Nat) (x3 : Option Nat) (x4 : Int32) : Option (Int32 × jw_H) :=
 g_L_law_b1916 Ls xs k23 h x1 x2 x3 x4

noncomputable def g_L_law_b1173 (Ls : Nat) (xs : Nat → Int32) (k23 : jw_H → Nat → Nat → Option Nat → Int32 → Option (Int32 × jw_H)) (h : jw_H) (x1 : Nat) (x2 : Nat) (x3 : Option Nat) (x4 : Int32) : Option (Int32 × jw_H) :=
 (jw_xs Ls xs (x4 + (1 : Int32))).bind fun v1 =>
 (jw_xs Ls xs (x4 + (2 : Int32))).bind fun v2 =>
 jw_b2 (f_L_heldAt h (some x1) v1 v2 x3) fun w4 h3 =>
 (jw_xs Ls xs (x4 + (1 : Int32))).bind fun v5 =>
 (jw_xs Ls xs (x4 + (2 : Int32))).bind fun v6 =>
 (jw_rc h3 12 (some x2)).bind fun a7 =>
 jw_b2 (f_X12_heldAt h3 a7 v5 v6) fun w9 h8 =>
 (jw_rc h8 12 (some x2)).bind fun a10 =>
 jw_b2 (f_X12_thrown h8 a10) fun w12 h11 =>
 if w12 = w4 then (if w4 = 0 then ((jw_al h11 x3 (0 : Int32)).bind fun v15 =>
 if (lg_cmp v15 w9.toInt64) = 0 then (g_L_law_b1238 Ls xs k23 h11 x1 x2 x3 x4)
 else (some ((0 : Int32), h11)))
 else (g_L_law_b1238 Ls xs k23 h11 x1 x2 x3 x4))
 else (some ((0 : Int32), h11))

noncomputable def g_L_law_b1241 (Ls : Nat) (xs : Nat → Int32) (k23 : jw_H → Nat → Nat → Option Nat → Int32 → Option (Int32 × jw_H)) (h : jw_H) (x1 : Nat) (x2 : Nat) (x3 : Option Nat) (x4 : Int32) : Option (Int32 × jw_H) :=
 (jw_rc h 11 (some x1)).bind fun a1 =>
 jw_b2 (f_X11_outs h a1) fun w3 h2 =>
 (jw_rc h2 12 (some x2)).bind fun a4 =>
 jw_b2 (f_X12_outs h2 a4) fun w6 h5 =>
 if w3 = w6 then (g_L_law_b1916 Ls xs k23 h5 x1 x2 x3 x4)
 else (some ((0 : Int32), h5))

noncomputable def g_L_law_b1307 (Ls : Nat) (xs : Nat → Int32) (k23 : jw_H → Nat → Nat → Option Nat → Int32 → Option (Int32 × jw_H)) (h : jw_H) (x1 : Nat) (x2 : Nat) (x3 : Option Nat) (x4 : Int32) : Option (Int32 × jw_H) :=
 g_L_law_b1916 Ls xs k23 h x1 x2 x3 x4

noncomputable def g_L_law_b1254 (Ls : Nat) (xs : Nat → Int32) (k23 : jw_H → Nat → Nat → Option Nat → Int32 → Option (Int32 × jw_H)) (h : jw_H) (x1 : Nat) (x2 : Nat) (x3 : Option Nat) (x4 : Int32) : Option (Int32 × jw_H) :=
 (jw_xs Ls xs (x4 + (1 : Int32))).bind fun v1 =>
 jw_b2 (f_L_outLength h (some x1) v1 x3) fun w3 h2 =>
 (jw_xs Ls xs (x4 + (1 : Int32))).bind fun v4 =>
 (jw_rc h2 12 (some x2)).bind fun a5 =>
 jw_b2 (f_X12_outLength h2 a5 v4) fun w7 h6 =>
 (jw_rc h6 12 (some x2)).bind fun a8 =>
 jw_b2 (f_X12_thrown h6 a8) fun w10 h9 =>
 if w10 = w3 then (if w3 = 0 then ((jw_al h9 x3 (0 : Int32)).bind fun v13 =>
 if (lg_cmp v13 w7.toInt64) = 0 then (g_L_law_b1307 Ls xs k23 h9 x1 x2 x3 x4)
 else (some ((0 : Int32), h9)))
 else (g_L_law_b1307 Ls xs k23 h9 x1 x2 x3 x4))
 else (some ((0 : Int32), h9))

noncomputable def g_L_law_b1375 (Ls : Nat) (xs : Nat → Int32) (k23 : jw_H → Nat → Nat → Option Nat → Int32 → Option (Int32 × jw_H)) (h : jw_H) (x1 : Nat) (x2 : Nat) (x3 : Option Nat) (x4 : Int32) : Option (Int32 × jw_H) :=
 g_L_law_b1916 Ls xs k23 h x1 x2 x3 x4

noncomputable def g_L_law_b1310 (Ls : Nat) (xs : Nat → Int32) (k23 : jw_H → Nat → Nat → Option Nat → Int32 → Option (Int32 × jw_H)) (h : jw_H) (x1 : Nat) (x2 : Nat) (x3 : Option Nat) (x4 : Int32) : Option (Int32 × jw_H) :=
 (jw_xs Ls xs (x4 + (1 : Int32))).bind fun v1 =>
 (jw_xs Ls xs (x4 + (2 : Int32))).bind fun v2 =>
 jw_b2 (f_L_outAt h (some x1) v1 v2 x3) fun w4 h3 =>
 (jw_xs Ls xs (x4 + (1 : Int32))).bind fun v5 =>
 (jw_xs Ls xs (x4 + (2 : Int32))).bind fun v6 =>
 (jw_rc h3 12 (some x2)).bind fun a7 =>
 jw_b2 (f_X12_outAt h3 a7 v5 v6) fun w9 h8 =>
 (jw_rc h8 12 (some x2)).bind fun a10 =>
 jw_b2 (f_X12_thrown h8 a10) fun w12 h11 =>
 if w12 = w4 then (if w4 = 0 then ((jw_al h11 x3 (0 : Int32)).bind fun v15 =>
 if (lg_cmp v15 w9.toInt64) = 0 then (g_L_law_b1375 Ls xs k23 h11 x1 x2 x3 x4)
 else (some ((0 : Int32), h11)))
 else (g_L_law_b1375 Ls xs k23 h11 x1 x2 x3 x4))
 else (some ((0 : Int32), h11))

noncomputable def g_L_law_b1378 (Ls : Nat) (xs : Nat → Int32) (k23 : jw_H → Nat → Nat → Option Nat → Int32 → Option (Int32 × jw_H)) (h : jw_H) (x1 : Nat) (x2 : Nat) (x3 : Option Nat) (x4 : Int32) : Option (Int32 × jw_H) :=
 (jw_rc h 11 (some x1)).bind fun a1 =>
 jw_b2 (f_X11_clearOut h a1) fun w3 h2 =>
 (jw_rc h2 12 (some x2)).bind fun a4 =>
 jw_b2 (f_X12_clearOut h2 a4) fun w6 h5 =>
 if w3 = w6 then (g_L_law_b1916 Ls xs k23 h5 x1 x2 x3 x4)
 else (some ((0 : Int32), h5))

noncomputable def g_L_law_b1444 (Ls : Nat) (xs : Nat → Int32) (k23 : jw_H → Nat → Nat → Option Nat → Int32 → Option (Int32 × jw_H)) (h : jw_H) (x1 : Nat) (x2 : Nat) (x3 : Option Nat) (x4 : Int32) : Option (Int32 × jw_H) :=
 g_L_law_b1916 Ls xs k23 h x1 x2 x3 x4

noncomputable def g_L_law_b1391 (Ls : Nat) (xs : Nat → Int32) (k23 : jw_H → Nat → Nat → Option Nat → Int32 → Option (Int32 × jw_H)) (h : jw_H) (x1 : Nat) (x2 : Nat) (x3 : Option Nat) (x4 : Int32) : Option (Int32 × jw_H) :=
 (jw_xs Ls xs (x4 + (1 : Int32))).bind fun v1 =>
 jw_b2 (f_L_fileRows h (some x1) v1 x3) fun w3 h2 =>
 (jw_xs Ls xs (x4 + (1 : Int32))).bind fun v4 =>
 (jw_rc h2 12 (some x2)).bind fun a5 =>
 jw_b2 (f_X12_fileRows h2 a5 v4) fun w7 h6 =>
 (jw_rc h6 12 (some x2)).bind fun a8 =>
 jw_b2 (f_X12_thrown h6 a8) fun w10 h9 =>
 if w10 = w3 then (if w3 = 0 then ((jw_al h9 x3 (0 : Int32)).bind fun v13 =>
 if (lg_cmp v13 w7.toInt64) = 0 then (g_L_law_b1444 Ls xs k23 h9 x1 x2 x3 x4)
 else (some ((0 : Int32), h9)))
 else (g_L_law_b1444 Ls xs k23 h9 x1 x2 x3 x4))
 else (some ((0 : Int32), h9))

noncomputable def g_L_law_b1512 (Ls : Nat) (xs : Nat → Int32) (k23 : jw_H → Nat → Nat → Option Nat → Int32 → Option (Int32 × jw_H)) (h : jw_H) (x1 : Nat) (x2 : Nat) (x3 : Option Nat) (x4 : Int32) : Option (Int32 × jw_H) :=
 g_L_law_b1916 Ls xs k23 h x1 x2 x3 x4

noncomputable def g_L_law_b1447 (Ls : Nat) (xs : Nat → Int32) (k23 : jw_H → Nat → Nat → Option Nat → Int32 → Option (Int32 × jw_H)) (h : jw_H) (x1 : Nat) (x2 : Nat) (x3 : Option Nat) (x4 : Int32) : Option (Int32 × jw_H) :=
 (jw_xs Ls xs (x4 + (1 : Int32))).bind fun v1 =>
 (jw_xs Ls xs (x4 + (2 : Int32))).bind fun v2 =>
 jw_b2 (f_L_fileLength h (some x1) v1 v2 x3) fun w4 h3 =>
 (jw_xs Ls xs (x4 + (1 : Int32))).bind fun v5 =>
 (jw_xs Ls xs (x4 + (2 : Int32))).bind fun v6 =>
 (jw_rc h3 12 (some x2)).bind fun a7 =>
 jw_b2 (f_X12_fileLength h3 a7 v5 v6) fun w9 h8 =>
 (jw_rc h8 12 (some x2)).bind fun a10 =>
 jw_b2 (f_X12_thrown h8 a10) fun w12 h11 =>
 if w12 = w4 then (if w4 = 0 then ((jw_al h11 x3 (0 : Int32)).bind fun v15 =>
 if (lg_cmp v15 w9.toInt64) = 0 then (g_L_law_b1512 Ls xs k23 h11 x1 x2 x3 x4)
 else (some ((0 : Int32), h11)))
 else (g_L_law_b1512 Ls xs k23 h11 x1 x2 x3 x4))
 else (some ((0 : Int32), h11))

noncomputable def g_L_law_b1592 (Ls : Nat) (xs : Nat → Int32) (k23 : jw_H → Nat → Nat → Option Nat → Int32 → Option (Int32 × jw_H)) (h : jw_H) (x1 : Nat) (x2 : Nat) (x3 : Option Nat) (x4 : Int32) : Option (Int32 × jw_H) :=
 g_L_law_b1916 Ls xs k23 h x1 x2 x3 x4

noncomputable def g_L_law_b1515 (Ls : Nat) (xs : Nat → Int32) (k23 : jw_H → Nat → Nat → Option Nat → Int32 → Option (Int32 × jw_H)) (h : jw_H) (x1 : Nat) (x2 : Nat) (x3 : Option Nat) (x4 : Int32) : Option (Int32 × jw_H) :=
 (jw_xs Ls xs (x4 + (1 : Int32))).bind fun v1 =>
 (jw_xs Ls xs (x4 + (2 : Int32))).bind fun v2 =>
 (jw_xs Ls xs (x4 + (3 : Int32))).bind fun v3 =>
 jw_b2 (f_L_fileAt h (some x1) v1 v2 v3 x3) fun w5 h4 =>
 (jw_xs Ls xs (x4 + (1 : Int32))).bind fun v6 =>
 (jw_xs Ls xs (x4 + (2 : Int32))).bind fun v7 =>
 (jw_xs Ls xs (x4 + (3 : Int32))).bind fun v8 =>
 (jw_rc h4 12 (some x2)).bind fun a9 =>
 jw_b2 (f_X12_fileAt h4 a9 v6 v7 v8) fun w11 h10 =>
 (jw_rc h10 12 (some x2)).bind fun a12 =>
 jw_b2 (f_X12_thrown h10 a12) fun w14 h13 =>
 if w14 = w5 then (if w5 = 0 then ((jw_al h13 x3 (0 : Int32)).bind fun v17 =>
 if (lg_cmp v17 w11.toInt64) = 0 then (g_L_law_b1592 Ls xs k23 h13 x1 x2 x3 x4)
 else (some ((0 : Int32), h13)))
 else (g_L_law_b1592 Ls xs k23 h13 x1 x2 x3 x4))
 else (some ((0 : Int32), h13))

noncomputable def g_L_law_b1664 (Ls : Nat) (xs : Nat → Int32) (k23 : jw_H → Nat → Nat → Option Nat → Int32 → Option (Int32 × jw_H)) (h : jw_H) (x1 : Nat) (x2 : Nat) (x3 : Option Nat) (x4 : Int32) : Option (Int32 × jw_H) :=
 g_L_law_b1916 Ls xs k23 h x1 x2 x3 x4

noncomputable def g_L_law_b1631 (Ls : Nat) (xs : Nat → Int32) (k23 : jw_H → Nat → Nat → Option Nat → Int32 → Option (Int32 × jw_H)) (h : jw_H) (x1 : Nat) (x2 : Nat) (x3 : Option Nat) (x4 : Int32) (x5 : Int32) (t0 : Nat) (t1 : Int32) : Option (Int32 × jw_H) :=
 (jw_rc h 12 (some t0)).bind fun a1 =>
 jw_b2 (f_X12_find h a1 t1) fun w3 h2 =>
 (jw_rc h2 12 (some x2)).bind fun a4 =>
 jw_b2 (f_X12_thrown h2 a4) fun w6 h5 =>
 if w6 = x5 then (if x5 = 0 then ((jw_al h5 x3 (0 : Int32)).bind fun v9 =>
 if (lg_cmp v9 w3.toInt64) = 0 then (g_L_law_b1664 Ls xs k23 h5 x1 x2 x3 x4)
 else (some ((0 : Int32), h5)))
 else (g_L_law_b1664 Ls xs k23 h5 x1 x2 x3 x4))
 else (some ((0 : Int32), h5))

noncomputable def g_L_law_b1610 (Ls : Nat) (xs : Nat → Int32) (k23 : jw_H → Nat → Nat → Option Nat → Int32 → Option (Int32 × jw_H)) (h : jw_H) (x1 : Nat) (x2 : Nat) (x3 : Option Nat) (x4 : Int32) (t0 : Nat) (t1 : Int32) : Option (Int32 × jw_H) :=
 jw_b2 (f_L_find h (some t0) t1 x3) fun w2 h1 =>
 (jw_xs Ls xs (x4 + (1 : Int32))).bind fun v3 =>
 if v3 = 0 then (g_L_law_b1631 Ls xs k23 h1 x1 x2 x3 x4 w2 x2 (0 : Int32))
 else (g_L_law_b1631 Ls xs k23 h1 x1 x2 x3 x4 w2 x2 (1 : Int32))

noncomputable def g_L_law_b1595 (Ls : Nat) (xs : Nat → Int32) (k23 : jw_H → Nat → Nat → Option Nat → Int32 → Option (Int32 × jw_H)) (h : jw_H) (x1 : Nat) (x2 : Nat) (x3 : Option Nat) (x4 : Int32) : Option (Int32 × jw_H) :=
 (jw_xs Ls xs (x4 + (1 : Int32))).bind fun v1 =>
 if v1 = 0 then (g_L_law_b1610 Ls xs k23 h x1 x2 x3 x4 x1 (0 : Int32))
 else (g_L_law_b1610 Ls xs k23 h x1 x2 x3 x4 x1 (1 : Int32))

noncomputable def g_L_law_b1720 (Ls : Nat) (xs : Nat → Int32) (k23 : jw_H → Nat → Nat → Option Nat → Int32 → Option (Int32 × jw_H)) (h : jw_H) (x1 : Nat) (x2 : Nat) (x3 : Option Nat) (x4 : Int32) : Option (Int32 × jw_H) :=
 g_L_law_b1916 Ls xs k23 h x1 x2 x3 x4

noncomputable def g_L_law_b1667 (Ls : Nat) (xs : Nat → Int32) (k23 : jw_H → Nat → Nat → Option Nat → Int32 → Option (Int32 × jw_H)) (h : jw_H) (x1 : Nat) (x2 : Nat) (x3 : Option Nat) (x4 : Int32) : Option (Int32 × jw_H) :=
 (jw_xs Ls xs (x4 + (1 : Int32))).bind fun v1 =>
 jw_b2 (f_L_findStart h (some x1) v1 x3) fun w3 h2 =>
 (jw_xs Ls xs (x4 + (1 : Int32))).bind fun v4 =>
 (jw_rc h2 12 (some x2)).bind fun a5 =>
 jw_b2 (f_X12_findStart h2 a5 v4) fun w7 h6 =>
 (jw_rc h6 12 (some x2)).bind fun a8 =>
 jw_b2 (f_X12_thrown h6 a8) fun w10 h9 =>
 if w10 = w3 then (if w3 = 0 then ((jw_al h9 x3 (0 : Int32)).bind fun v13 =>
 if (lg_cmp v13 w7.toInt64) = 0 then (g_L_law_b1720 Ls xs k23 h9 x1 x2 x3 x4)
 else (some ((0 : Int32), h9)))
 else (g_L_law_b1720 Ls xs k23 h9 x1 x2 x3 x4))
 else (some ((0 : Int32), h9))

noncomputable def g_L_law_b1776 (Ls : Nat) (xs : Nat → Int32) (k23 : jw_H → Nat → Nat → Option Nat → Int32 → Option (Int32 × jw_H)) (h : jw_H) (x1 : Nat) (x2 : Nat) (x3 : Option Nat) (x4 : Int32) : Option (Int32 × jw_H) :=
 g_L_law_b1916 Ls xs k23 h x1 x2 x3 x4

noncomputable def g_L_law_b1723 (Ls : Nat) (xs : Nat → Int32) (k23 : jw_H → Nat → Nat → Option Nat → Int32 → Option (Int32 × jw_H)) (h : jw_H) (x1 : Nat) (x2 : Nat) (x3 : Option Nat) (x4 : Int32) : Option (Int32 × jw_H) :=
 (jw_xs Ls xs (x4 + (1 : Int32))).bind fun v1 =>
 jw_b2 (f_L_findEnd h (some x1) v1 x3) fun w3 h2 =>
 (jw_xs Ls xs (x4 + (1 : Int32))).bind fun v4 =>
 (jw_rc h2 12 (some x2)).bind fun a5 =>
 jw_b2 (f_X12_findEnd h2 a5 v4) fun w7 h6 =>
 (jw_rc h6 12 (some x2)).bind fun a8 =>
 jw_b2 (f_X12_thrown h6 a8) fun w10 h9 =>
 if w10 = w3 then (if w3 = 0 then ((jw_al h9 x3 (0 : Int32)).bind fun v13 =>
 if (lg_cmp v13 w7.toInt64) = 0 then (g_L_law_b1776 Ls xs k23 h9 x1 x2 x3 x4)
 else (some ((0 : Int32), h9)))
 else (g_L_law_b1776 Ls xs k23 h9 x1 x2 x3 x4))
 else (some ((0 : Int32), h9))

noncomputable def g_L_law_b1832 (Ls : Nat) (xs : Nat → Int32) (k23 : jw_H → Nat → Nat → Option Nat → Int32 → Option (Int32 × jw_H)) (h : jw_H) (x1 : Nat) (x2 : Nat) (x3 : Option Nat) (x4 : Int32) : Option (Int32 × jw_H) :=
 g_L_law_b1916 Ls xs k23 h x1 x2 x3 x4

noncomputable def g_L_law_b1779 (Ls : Nat) (xs : Nat → Int32) (k23 : jw_H → Nat → Nat → Option Nat → Int32 → Option (Int32 × jw_H)) (h : jw_H) (x1 : Nat) (x2 : Nat) (x3 : Option Nat) (x4 : Int32) : Option (Int32 × jw_H) :=
 (jw_xs Ls xs (x4 + (1 : Int32))).bind fun v1 =>
 jw_b2 (f_L_differ h (some x1) v1 x3) fun w3 h2 =>
 (jw_xs Ls xs (x4 + (1 : Int32))).bind fun v4 =>
 (jw_rc h2 12 (some x2)).bind fun a5 =>
 jw_b2 (f_X12_differ h2 a5 v4) fun w7 h6 =>
 (jw_rc h6 12 (some x2)).bind fun a8 =>
 jw_b2 (f_X12_thrown h6 a8) fun w10 h9 =>
 if w10 = w3 then (if w3 = 0 then ((jw_al h9 x3 (0 : Int32)).bind fun v13 =>
 if (lg_cmp v13 w7.toInt64) = 0 then (g_L_law_b1832 Ls xs k23 h9 x1 x2 x3 x4)
 else (some ((0 : Int32), h9)))
 else (g_L_law_b1832 Ls xs k23 h9 x1 x2 x3 x4))
 else (some ((0 : Int32), h9))

noncomputable def g_L_law_b1900 (Ls : Nat) (xs : Nat → Int32) (k23 : jw_H → Nat → Nat → Option Nat → Int32 → Option (Int32 × jw_H)) (h : jw_H) (x1 : Nat) (x2 : Nat) (x3 : Option Nat) (x4 : Int32) : Option (Int32 × jw_H) :=
 g_L_law_b1916 Ls xs k23 h x1 x2 x3 x4

noncomputable def g_L_law_b1835 (Ls : Nat) (xs : Nat → Int32) (k23 : jw_H → Nat → Nat → Option Nat → Int32 → Option (Int32 × jw_H)) (h : jw_H) (x1 : Nat) (x2 : Nat) (x3 : Option Nat) (x4 : Int32) : Option (Int32 × jw_H) :=
 (jw_xs Ls xs (x4 + (1 : Int32))).bind fun v1 =>
 (jw_xs Ls xs (x4 + (2 : Int32))).bind fun v2 =>
 jw_b2 (f_L_pairOf h (some x1) v1 v2 x3) fun w4 h3 =>
 (jw_xs Ls xs (x4 + (1 : Int32))).bind fun v5 =>
 (jw_xs Ls xs (x4 + (2 : Int32))).bind fun v6 =>
 (jw_rc h3 12 (some x2)).bind fun a7 =>
 jw_b2 (f_X12_pairOf h3 a7 v5 v6) fun w9 h8 =>
 (jw_rc h8 12 (some x2)).bind fun a10 =>
 jw_b2 (f_X12_thrown h8 a10) fun w12 h11 =>
 if w12 = w4 then (if w4 = 0 then ((jw_al h11 x3 (0 : Int32)).bind fun v15 =>
 if (lg_cmp v15 w9.toInt64) = 0 then (g_L_law_b1900 Ls xs k23 h11 x1 x2 x3 x4)
 else (some ((0 : Int32), h11)))
 else (g_L_law_b1900 Ls xs k23 h11 x1 x2 x3 x4))
 else (some ((0 : Int32), h11))

noncomputable def g_L_law_b1903 (Ls : Nat) (xs : Nat → Int32) (k23 : jw_H → Nat → Nat → Option Nat → Int32 → Option (Int32 × jw_H)) (h : jw_H) (x1 : Nat) (x2 : Nat) (x3 : Option Nat) (x4 : Int32) : Option (Int32 × jw_H) :=
 (jw_rc h 11 (some x1)).bind fun a1 =>
 jw_b2 (f_X11_isSound h a1) fun w3 h2 =>
 (jw_rc h2 12 (some x2)).bind fun a4 =>
 jw_b2 (f_X12_isSound h2 a4) fun w6 h5 =>
 if w3 = w6 then (g_L_law_b1916 Ls xs k23 h5 x1 x2 x3 x4)
 else (some ((0 : Int32), h5))

noncomputable def g_L_law_b23 (Ls : Nat) (xs : Nat → Int32) (k23 : jw_H → Nat → Nat → Option Nat → Int32 → Option (Int32 × jw_H)) (h : jw_H) (x1 : Nat) (x2 : Nat) (x3 : Option Nat) (x4 : Int32) : Option (Int32 × jw_H) :=
 if ((Int32.ofNat Ls) - (4 : Int32)) < x4 then (some ((1 : Int32), h))
 else ((jw_xs Ls xs x4).bind fun v3 =>
 if (v3 &&& (63 : Int32)) = (0 : Int32) then (g_L_law_b204 Ls xs k23 h x1 x2 x3 x4)
 else (if (v3 &&& (63 : Int32)) = (1 : Int32) then (g_L_law_b260 Ls xs k23 h x1 x2 x3 x4)
 else (if (v3 &&& (63 : Int32)) = (2 : Int32) then (g_L_law_b273 Ls xs k23 h x1 x2 x3 x4)
 else (if (v3 &&& (63 : Int32)) = (3 : Int32) then (g_L_law_b286 Ls xs k23 h x1 x2 x3 x4)
 else (if (v3 &&& (63 : Int32)) = (4 : Int32) then (g_L_law_b299 Ls xs k23 h x1 x2 x3 x4)
 else (if (v3 &&& (63 : Int32)) = (5 : Int32) then (g_L_law_b343 Ls xs k23 h x1 x2 x3 x4)
 else (if (v3 &&& (63 : Int32)) = (6 : Int32) then (g_L_law_b399 Ls xs k23 h x1 x2 x3 x4)
 else (if (v3 &&& (63 : Int32)) = (7 : Int32) then (g_L_law_b455 Ls xs k23 h x1 x2 x3 x4)
 else (if (v3 &&& (63 : Int32)) = (8 : Int32) then (g_L_law_b511 Ls xs k23 h x1 x2 x3 x4)
 else (if (v3 &&& (63 : Int32)) = (9 : Int32) then (g_L_law_b524 Ls xs k23 h x1 x2 x3 x4)
 else (if (v3 &&& (63 : Int32)) = (10 : Int32) then (g_L_law_b580 Ls xs k23 h x1 x2 x3 x4)
 else (if (v3 &&& (63 : Int32)) = (11 : Int32) then (g_L_law_b648 Ls xs k23 h x1 x2 x3 x4)
 else (if (v3 &&& (63 : Int32)) = (12 : Int32) then (g_L_law_b692 Ls xs k23 h x1 x2 x3 x4)
 else (if (v3 &&& (63 : Int32)) = (13 : Int32) then (g_L_law_b736 Ls xs k23 h x1 x2 x3 x4)
 else (if (v3 &&& (63 : Int32)) = (14 : Int32) then (g_L_law_b749 Ls xs k23 h x1 x2 x3 x4)
 else (if (v3 &&& (63 : Int32)) = (15 : Int32) then (g_L_law_b762 Ls xs k23 h x1 x2 x3 x4)
 else (if (v3 &&& (63 : Int32)) = (16 : Int32) then (g_L_law_b818 Ls xs k23 h x1 x2 x3 x4)
 else (if (v3 &&& (63 : Int32)) = (17 : Int32) then (g_L_law_b886 Ls xs k23 h x1 x2 x3 x4)
 else (if (v3 &&& (63 : Int32)) = (18 : Int32) then (g_L_law_b942 Ls xs k23 h x1 x2 x3 x4)
 else (if (v3 &&& (63 : Int32)) = (19 : Int32) then (g_L_law_b967 Ls xs k23 h x1 x2 x3 x4)
 else (if (v3 &&& (63 : Int32)) = (20 : Int32) then (g_L_law_b980 Ls xs k23 h x1 x2 x3 x4)
 else (if (v3 &&& (63 : Int32)) = (21 : Int32) then (g_L_law_b1036 Ls xs k23 h x1 x2 x3 x4)
 else (if (v3 &&& (63 : Int32)) = (22 : Int32) then (g_L_law_b1104 Ls xs k23 h x1 x2 x3 x4)
 else (if (v3 &&& (63 : Int32)) = (23 : Int32) then (g_L_law_b1117 Ls xs k23 h x1 x2 x3 x4)
 else (if (v3 &&& (63 : Int32)) = (24 : Int32) then (g_L_law_b1173 Ls xs k23 h x1 x2 x3 x4)
 else (if (v3 &&& (63 : Int32)) = (25 : Int32) then (g_L_law_b1241 Ls xs k23 h x1 x2 x3 x4)
 else (if (v3 &&& (63 : Int32)) = (26 : Int32) then (g_L_law_b1254 Ls xs k23 h x1 x2 x3 x4)
 else (if (v3 &&& (63 : Int32)) = (27 : Int32) then (g_L_law_b1310 Ls xs k23 h x1 x2 x3 x4)
 else (if (v3 &&& (63 : Int32)) = (28 : Int32) then (g_L_law_b1378 Ls xs k23 h x1 x2 x3 x4)
 else (if (v3 &&& (63 : Int32)) = (29 : Int32) then (g_L_law_b1391 Ls xs k23 h x1 x2 x3 x4)
 else (if (v3 &&& (63 : Int32)) = (30 : Int32) then (g_L_law_b1447 Ls xs k23 h x1 x2 x3 x4)
 else (if (v3 &&& (63 : Int32)) = (31 : Int32) then (g_L_law_b1515 Ls xs k23 h x1 x2 x3 x4)
 else (if (v3 &&& (63 : Int32)) = (32 : Int32) then (g_L_law_b1595 Ls xs k23 h x1 x2 x3 x4)
 else (if (v3 &&& (63 : Int32)) = (33 : Int32) then (g_L_law_b1667 Ls xs k23 h x1 x2 x3 x4)
 else (if (v3 &&& (63 : Int32)) = (34 : Int32) then (g_L_law_b1723 Ls xs k23 h x1 x2 x3 x4)
 else (if (v3 &&& (63 : Int32)) = (35 : Int32) then (g_L_law_b1779 Ls xs k23 h x1 x2 x3 x4)
 else (if (v3 &&& (63 : Int32)) = (36 : Int32) then (g_L_law_b1835 Ls xs k23 h x1 x2 x3 x4)
 else (if (v3 &&& (63 : Int32)) = (37 : Int32) then (g_L_law_b1903 Ls xs k23 h x1 x2 x3 x4)
 else (g_L_law_b1916 Ls xs k23 h x1 x2 x3 x4)))))))))))))))))))))))))))))))))))))))

noncomputable def f_L_law_b23 (Ls : Nat) (xs : Nat → Int32) (n : Nat) : jw_H → Nat → Nat → Option Nat → Int32 → Option (Int32 × jw_H) :=
 Nat.rec (fun _ _ _ _ _ => none) (fun _ k23 => g_L_law_b23 Ls xs k23) n

noncomputable def f_L_law (Ls : Nat) (xs : Nat → Int32) (h : jw_H)  : Option (Int32 × jw_H) :=
 (some (jw_new h (11, 0) (jw_nf 11))).bind fun h1 =>
 jw_b2 (f_X11_init h1 (jw_n h)) fun w3 h2 =>
 (some (jw_new h2 (12, 0) (jw_nf 12))).bind fun h4 =>
 jw_b2 (f_X12_init h4 (jw_n h2)) fun w6 h5 =>
 (jw_mka h5 23 (1 : Int32)).bind fun h7 =>
 f_L_law_b23 Ls xs  jw_FU h7 (jw_n h) (jw_n h2) (some (jw_n h5)) (0 : Int32)

set_option maxRecDepth 100000 in
set_option maxHeartbeats 4000000 in
theorem l_L_law_b1916 {Ls : Nat} {xs : Nat → Int32} {hi : jw_H} {k23 : jw_H → Nat → Nat → Option Nat → Int32 → Option (Int32 × jw_H)} (hk23 : ∀ (h : jw_H) (x1 : Nat) (x2 : Nat) (x3 : Option Nat) (x4 : Int32) (r : Int32) (h' : jw_H), k23 h x1 x2 x3 x4 = some (r, h') → jw_E 21 (uL_law Ls xs) hi 23 [some (.retAddr 0), some (.ref x1), some (.ref x2), some (va_rf x3), some (.int x4), none, none] [] h (.inl (some (.int r))) h') {h : jw_H} {x1 : Nat} {x2 : Nat} {x3 : Option Nat} {x4 : Int32} {r : Int32} {h' : jw_H} (hq : g_L_law_b1916 Ls xs k23 h x1 x2 x3 x4 = some (r, h')) : jw_E 21 (uL_law Ls xs) hi 1916 [some (.retAddr 0), some (.ref x1), some (.ref x2), some (va_rf x3), some (.int x4), none, none] [] h (.inl (some (.int r))) h' := by
  unfold g_L_law_b1916 at hq
  refine jw_iinc (L' := [some (.retAddr 0), some (.ref x1), some (.ref x2), some (va_rf x3), some (.int (x4 + (4 : Int32))), none, none]) dL_law_1916 rfl (v := (4 : Int32)) (by decide) (Nat.le_of_ble_eq_true rfl) ((jw_st1_of (j := 3) jw_long_rf).trans rfl) ?_
  refine jw_goto (tgt := 23) dL_law_1919 (by decide) ?_
  exact hk23 _ _ _ _ _ _ _ hq

set_option maxRecDepth 100000 in
set_option maxHeartbeats 4000000 in
theorem l_L_law_b257 {Ls : Nat} {xs : Nat → Int32} {hi : jw_H} {k23 : jw_H → Nat → Nat → Option Nat → Int32 → Option (Int32 × jw_H)} (hk23 : ∀ (h : jw_H) (x1 : Nat) (x2 : Nat) (x3 : Option Nat) (x4 : Int32) (r : Int32) (h' : jw_H), k23 h x1 x2 x3 x4 = some (r, h') → jw_E 21 (uL_law Ls xs) hi 23 [some (.retAddr 0), some (.ref x1), some (.ref x2), some (va_rf x3), some (.int x4), none, none] [] h (.inl (some (.int r))) h') {h : jw_H} {x1 : Nat} {x2 : Nat} {x3 : Option Nat} {x4 : Int32} {r : Int32} {h' : jw_H} (hq : g_L_law_b257 Ls xs k23 h x1 x2 x3 x4 = some (r, h')) : jw_E 21 (uL_law Ls xs) hi 257 [some (.retAddr 0), some (.ref x1), some (.ref x2), some (va_rf x3), some (.int x4), none, none] [] h (.inl (some (.int r))) h' := by
  unfold g_L_law_b257 at hq
  refine jw_goto (tgt := 1916) dL_law_257 (by decide) ?_
  exact l_L_law_b1916 hk23 hq

set_option maxRecDepth 100000 in
set_option maxHeartbeats 4000000 in
theorem l_L_law_b204 {Ls : Nat} {xs : Nat → Int32} {hi : jw_H} {k23 : jw_H → Nat → Nat → Option Nat → Int32 → Option (Int32 × jw_H)} (hk23 : ∀ (h : jw_H) (x1 : Nat) (x2 : Nat) (x3 : Option Nat) (x4 : Int32) (r : Int32) (h' : jw_H), k23 h x1 x2 x3 x4 = some (r, h') → jw_E 21 (uL_law Ls xs) hi 23 [some (.retAddr 0), some (.ref x1), some (.ref x2), some (va_rf x3), some (.int x4), none, none] [] h (.inl (some (.int r))) h') {h : jw_H} {x1 : Nat} {x2 : Nat} {x3 : Option Nat} {x4 : Int32} {r : Int32} {h' : jw_H} (hq : g_L_law_b204 Ls xs k23 h x1 x2 x3 x4 = some (r, h')) : jw_E 21 (uL_law Ls xs) hi 204 [some (.retAddr 0), some (.ref x1), some (.ref x2), some (va_rf x3), some (.int x4), none, none] [] h (.inl (some (.int r))) h' := by
  unfold g_L_law_b204 at hq
  refine jw_aload_n dL_law_204 (o := (some x1)) rfl ?_
  refine jw_aload_nS dL_law_205 rfl ?_
  refine jw_iload dL_law_206 rfl ?_
  refine jw_iconst dL_law_208 (v := (1 : Int32)) (by decide) ?_
  refine jw_iadd dL_law_209 ?_
  obtain ⟨v1, ev1, hq⟩ := Option.bind_eq_some_iff.mp hq
  refine jw_sld (xs0 := xs) rfl dL_law_210 ev1 ?_
  refine jw_aload_n dL_law_211 (o := x3) rfl ?_
  obtain ⟨w3, h2, ew3, hq⟩ := jw_b2_spec hq
  refine jw_callSW (As := [va_rf (some x1), .int v1, va_rf x3]) (S := []) (v := some (.int w3)) dL_law_212 mw_L_type st_L_type lw_L_102 (c_L_type ew3) rfl (by decide) (Nat.le_of_ble_eq_true rfl) rfl ?_
  refine jw_istore (L' := [some (.retAddr 0), some (.ref x1), some (.ref x2), some (va_rf x3), some (.int x4), some (.int w3), none]) dL_law_215 (Nat.le_of_ble_eq_true rfl) rfl ?_
  refine jw_aload_n dL_law_217 (o := (some x2)) rfl ?_
  refine jw_aload_nS dL_law_218 rfl ?_
  refine jw_iload dL_law_219 rfl ?_
  refine jw_iconst dL_law_221 (v := (1 : Int32)) (by decide) ?_
  refine jw_iadd dL_law_222 ?_
  obtain ⟨v4, ev4, hq⟩ := Option.bind_eq_some_iff.mp hq
  refine jw_sld (xs0 := xs) rfl dL_law_223 ev4 ?_
  obtain ⟨a5, ea5, hq⟩ := Option.bind_eq_some_iff.mp hq
  obtain ⟨eoa5, eta5⟩ := jw_rc_spec ea5
  obtain ⟨w7, h6, ew7, hq⟩ := jw_b2_spec hq
  refine jw_callV (As := [.int v4]) (S := []) (a := a5) (v := some (.int w7)) dL_law_224 mt_X12_type in_X12_type se_X12_type lk_L_107 (c_X12_type ew7) eta5 (by decide) rfl rfl (by decide) (Nat.le_of_ble_eq_true rfl) (by cases eoa5; rfl) ?_
  refine jw_istore (L' := [some (.retAddr 0), some (.ref x1), some (.ref x2), some (va_rf x3), some (.int x4), some (.int w3), some (.int w7)]) dL_law_227 (Nat.le_of_ble_eq_true rfl) rfl ?_
  refine jw_aload_n dL_law_229 (o := (some x2)) rfl ?_
  obtain ⟨a8, ea8, hq⟩ := Option.bind_eq_some_iff.mp hq
  obtain ⟨eoa8, eta8⟩ := jw_rc_spec ea8
  obtain ⟨w10, h9, ew10, hq⟩ := jw_b2_spec hq
  refine jw_callV (As := []) (S := []) (a := a8) (v := some (.int w10)) dL_law_230 mt_X12_thrown in_X12_thrown se_X12_thrown lk_L_108 (c_X12_thrown ew10) eta8 (by decide) rfl rfl (by decide) (Nat.le_of_ble_eq_true rfl) (by cases eoa8; rfl) ?_
  refine jw_iload dL_law_233 rfl ?_
  rcases jw_if hq with ⟨c11, hq⟩ | ⟨c11, hq⟩
  · refine jw_icmp_eq_t (tgt := 240) dL_law_235 (by decide) c11 ?_
    refine jw_iload dL_law_240 rfl ?_
    rcases jw_if hq with ⟨c12, hq⟩ | ⟨c12, hq⟩
    · refine jw_if_ne_f (tgt := 257) dL_law_242 (by decide) c12 ?_
      refine jw_aload_n dL_law_245 (o := x3) rfl ?_
      refine jw_iconst dL_law_246 (v := (0 : Int32)) (by decide) ?_
      obtain ⟨v13, ev13, hq⟩ := Option.bind_eq_some_iff.mp hq
      refine jw_lald (o := x3) dL_law_247 ev13 ?_
      refine jw_iload dL_law_248 rfl ?_
      refine jw_i2l dL_law_250 ?_
      refine jw_lcmp dL_law_251 ?_
      rcases jw_if hq with ⟨c14, hq⟩ | ⟨c14, hq⟩
      · refine jw_if_eq_t (tgt := 257) dL_law_252 (by decide) c14 ?_
        refine jw_forget [true, true, true, true, true, false, false] (L' := [some (.retAddr 0), some (.ref x1), some (.ref x2), some (va_rf x3), some (.int x4), none, none]) rfl ?_
        exact l_L_law_b257 hk23 hq
      · refine jw_if_eq_f (tgt := 257) dL_law_252 (by decide) c14 ?_
        refine jw_iconst dL_law_255 (v := (0 : Int32)) (by decide) ?_
        cases hq
        exact jw_iret (ty := .boolean) dL_law_256 rfl rfl
    · refine jw_if_ne_t (tgt := 257) dL_law_242 (by decide) c12 ?_
      refine jw_forget [true, true, true, true, true, false, false] (L' := [some (.retAddr 0), some (.ref x1), some (.ref x2), some (va_rf x3), some (.int x4), none, none]) rfl ?_
      exact l_L_law_b257 hk23 hq
  · refine jw_icmp_eq_f (tgt := 240) dL_law_235 (by decide) c11 ?_
    refine jw_iconst dL_law_238 (v := (0 : Int32)) (by decide) ?_
    cases hq
    exact jw_iret (ty := .boolean) dL_law_239 rfl rfl

set_option maxRecDepth 100000 in
set_option maxHeartbeats 4000000 in
theorem l_L_law_b260 {Ls : Nat} {xs : Nat → Int32} {hi : jw_H} {k23 : jw_H → Nat → Nat → Option Nat → Int32 → Option (Int32 × jw_H)} (hk23 : ∀ (h : jw_H) (x1 : Nat) (x2 : Nat) (x3 : Option Nat) (x4 : Int32) (r : Int32) (h' : jw_H), k23 h x1 x2 x3 x4 = some (r, h') → jw_E 21 (uL_law Ls xs) hi 23 [some (.retAddr 0), some (.ref x1), some (.ref x2), some (va_rf x3), some (.int x4), none, none] [] h (.inl (some (.int r))) h') {h : jw_H} {x1 : Nat} {x2 : Nat} {x3 : Option Nat} {x4 : Int32} {r : Int32} {h' : jw_H} (hq : g_L_law_b260 Ls xs k23 h x1 x2 x3 x4 = some (r, h')) : jw_E 21 (uL_law Ls xs) hi 260 [some (.retAddr 0), some (.ref x1), some (.ref x2), some (va_rf x3), some (.int x4), none, none] [] h (.inl (some (.int r))) h' := by
  unfold g_L_law_b260 at hq
  refine jw_aload_n dL_law_260 (o := (some x1)) rfl ?_
  obtain ⟨a1, ea1, hq⟩ := Option.bind_eq_some_iff.mp hq
  obtain ⟨eoa1, eta1⟩ := jw_rc_spec ea1
  obtain ⟨w3, h2, ew3, hq⟩ := jw_b2_spec hq
  refine jw_callV (As := []) (S := []) (a := a1) (v := some (.int w3)) dL_law_261 mt_X11_wipe in_X11_wipe se_X11_wipe lk_L_111 (c_X11_wipe ew3) eta1 (by decide) rfl rfl (by decide) (Nat.le_of_ble_eq_true rfl) (by cases eoa1; rfl) ?_
  refine jw_aload_n dL_law_264 (o := (some x2)) rfl ?_
  obtain ⟨a4, ea4, hq⟩ := Option.bind_eq_some_iff.mp hq
  obtain ⟨eoa4, eta4⟩ := jw_rc_spec ea4
  obtain ⟨w6, h5, ew6, hq⟩ := jw_b2_spec hq
  refine jw_callV (As := []) (S := [.int w3]) (a := a4) (v := some (.int w6)) dL_law_265 mt_X12_wipe in_X12_wipe se_X12_wipe lk_L_114 (c_X12_wipe ew6) eta4 (by decide) rfl rfl (by decide) (Nat.le_of_ble_eq_true rfl) (by cases eoa4; rfl) ?_
  rcases jw_if hq with ⟨c7, hq⟩ | ⟨c7, hq⟩
  · refine jw_icmp_eq_t (tgt := 1916) dL_law_268 (by decide) c7 ?_
    exact l_L_law_b1916 hk23 hq
  · refine jw_icmp_eq_f (tgt := 1916) dL_law_268 (by decide) c7 ?_
    refine jw_iconst dL_law_271 (v := (0 : Int32)) (by decide) ?_
    cases hq
    exact jw_iret (ty := .boolean) dL_law_272 rfl rfl

set_option maxRecDepth 100000 in
set_option maxHeartbeats 4000000 in
theorem l_L_law_b273 {Ls : Nat} {xs : Nat → Int32} {hi : jw_H} {k23 : jw_H → Nat → Nat → Option Nat → Int32 → Option (Int32 × jw_H)} (hk23 : ∀ (h : jw_H) (x1 : Nat) (x2 : Nat) (x3 : Option Nat) (x4 : Int32) (r : Int32) (h' : jw_H), k23 h x1 x2 x3 x4 = some (r, h') → jw_E 21 (uL_law Ls xs) hi 23 [some (.retAddr 0), some (.ref x1), some (.ref x2), some (va_rf x3), some (.int x4), none, none] [] h (.inl (some (.int r))) h') {h : jw_H} {x1 : Nat} {x2 : Nat} {x3 : Option Nat} {x4 : Int32} {r : Int32} {h' : jw_H} (hq : g_L_law_b273 Ls xs k23 h x1 x2 x3 x4 = some (r, h')) : jw_E 21 (uL_law Ls xs) hi 273 [some (.retAddr 0), some (.ref x1), some (.ref x2), some (va_rf x3), some (.int x4), none, none] [] h (.inl (some (.int r))) h' := by
  unfold g_L_law_b273 at hq
  refine jw_aload_n dL_law_273 (o := (some x1)) rfl ?_
  obtain ⟨a1, ea1, hq⟩ := Option.bind_eq_some_iff.mp hq
  obtain ⟨eoa1, eta1⟩ := jw_rc_spec ea1
  obtain ⟨w3, h2, ew3, hq⟩ := jw_b2_spec hq
  refine jw_callV (As := []) (S := []) (a := a1) (v := some (.int w3)) dL_law_274 mt_X11_fault in_X11_fault se_X11_fault lk_L_115 (c_X11_fault ew3) eta1 (by decide) rfl rfl (by decide) (Nat.le_of_ble_eq_true rfl) (by cases eoa1; rfl) ?_
  refine jw_aload_n dL_law_277 (o := (some x2)) rfl ?_
  obtain ⟨a4, ea4, hq⟩ := Option.bind_eq_some_iff.mp hq
  obtain ⟨eoa4, eta4⟩ := jw_rc_spec ea4
  obtain ⟨w6, h5, ew6, hq⟩ := jw_b2_spec hq
  refine jw_callV (As := []) (S := [.int w3]) (a := a4) (v := some (.int w6)) dL_law_278 mt_X12_fault in_X12_fault se_X12_fault lk_L_118 (c_X12_fault ew6) eta4 (by decide) rfl rfl (by decide) (Nat.le_of_ble_eq_true rfl) (by cases eoa4; rfl) ?_
  rcases jw_if hq with ⟨c7, hq⟩ | ⟨c7, hq⟩
  · refine jw_icmp_eq_t (tgt := 1916) dL_law_281 (by decide) c7 ?_
    exact l_L_law_b1916 hk23 hq
  · refine jw_icmp_eq_f (tgt := 1916) dL_law_281 (by decide) c7 ?_
    refine jw_iconst dL_law_284 (v := (0 : Int32)) (by decide) ?_
    cases hq
    exact jw_iret (ty := .boolean) dL_law_285 rfl rfl

set_option maxRecDepth 100000 in
set_option maxHeartbeats 4000000 in
theorem l_L_law_b286 {Ls : Nat} {xs : Nat → Int32} {hi : jw_H} {k23 : jw_H → Nat → Nat → Option Nat → Int32 → Option (Int32 × jw_H)} (hk23 : ∀ (h : jw_H) (x1 : Nat) (x2 : Nat) (x3 : Option Nat) (x4 : Int32) (r : Int32) (h' : jw_H), k23 h x1 x2 x3 x4 = some (r, h') → jw_E 21 (uL_law Ls xs) hi 23 [some (.retAddr 0), some (.ref x1), some (.ref x2), some (va_rf x3), some (.int x4), none, none] [] h (.inl (some (.int r))) h') {h : jw_H} {x1 : Nat} {x2 : Nat} {x3 : Option Nat} {x4 : Int32} {r : Int32} {h' : jw_H} (hq : g_L_law_b286 Ls xs k23 h x1 x2 x3 x4 = some (r, h')) : jw_E 21 (uL_law Ls xs) hi 286 [some (.retAddr 0), some (.ref x1), some (.ref x2), some (va_rf x3), some (.int x4), none, none] [] h (.inl (some (.int r))) h' := by
  unfold g_L_law_b286 at hq
  refine jw_aload_n dL_law_286 (o := (some x1)) rfl ?_
  obtain ⟨a1, ea1, hq⟩ := Option.bind_eq_some_iff.mp hq
  obtain ⟨eoa1, eta1⟩ := jw_rc_spec ea1
  obtain ⟨w3, h2, ew3, hq⟩ := jw_b2_spec hq
  refine jw_callV (As := []) (S := []) (a := a1) (v := some (.int w3)) dL_law_287 mt_X11_patternFault in_X11_patternFault se_X11_patternFault lk_L_119 (c_X11_patternFault ew3) eta1 (by decide) rfl rfl (by decide) (Nat.le_of_ble_eq_true rfl) (by cases eoa1; rfl) ?_
  refine jw_aload_n dL_law_290 (o := (some x2)) rfl ?_
  obtain ⟨a4, ea4, hq⟩ := Option.bind_eq_some_iff.mp hq
  obtain ⟨eoa4, eta4⟩ := jw_rc_spec ea4
  obtain ⟨w6, h5, ew6, hq⟩ := jw_b2_spec hq
  refine jw_callV (As := []) (S := [.int w3]) (a := a4) (v := some (.int w6)) dL_law_291 mt_X12_patternFault in_X12_patternFault se_X12_patternFault lk_L_122 (c_X12_patternFault ew6) eta4 (by decide) rfl rfl (by decide) (Nat.le_of_ble_eq_true rfl) (by cases eoa4; rfl) ?_
  rcases jw_if hq with ⟨c7, hq⟩ | ⟨c7, hq⟩
  · refine jw_icmp_eq_t (tgt := 1916) dL_law_294 (by decide) c7 ?_
    exact l_L_law_b1916 hk23 hq
  · refine jw_icmp_eq_f (tgt := 1916) dL_law_294 (by decide) c7 ?_
    refine jw_iconst dL_law_297 (v := (0 : Int32)) (by decide) ?_
    cases hq
    exact jw_iret (ty := .boolean) dL_law_298 rfl rfl

set_option maxRecDepth 100000 in
set_option maxHeartbeats 4000000 in
theorem l_L_law_b340 {Ls : Nat} {xs : Nat → Int32} {hi : jw_H} {k23 : jw_H → Nat → Nat → Option Nat → Int32 → Option (Int32 × jw_H)} (hk23 : ∀ (h : jw_H) (x1 : Nat) (x2 : Nat) (x3 : Option Nat) (x4 : Int32) (r : Int32) (h' : jw_H), k23 h x1 x2 x3 x4 = some (r, h') → jw_E 21 (uL_law Ls xs) hi 23 [some (.retAddr 0), some (.ref x1), some (.ref x2), some (va_rf x3), some (.int x4), none, none] [] h (.inl (some (.int r))) h') {h : jw_H} {x1 : Nat} {x2 : Nat} {x3 : Option Nat} {x4 : Int32} {r : Int32} {h' : jw_H} (hq : g_L_law_b340 Ls xs k23 h x1 x2 x3 x4 = some (r, h')) : jw_E 21 (uL_law Ls xs) hi 340 [some (.retAddr 0), some (.ref x1), some (.ref x2), some (va_rf x3), some (.int x4), none, none] [] h (.inl (some (.int r))) h' := by
  unfold g_L_law_b340 at hq
  refine jw_goto (tgt := 1916) dL_law_340 (by decide) ?_
  exact l_L_law_b1916 hk23 hq

set_option maxRecDepth 100000 in
set_option maxHeartbeats 4000000 in
theorem l_L_law_b299 {Ls : Nat} {xs : Nat → Int32} {hi : jw_H} {k23 : jw_H → Nat → Nat → Option Nat → Int32 → Option (Int32 × jw_H)} (hk23 : ∀ (h : jw_H) (x1 : Nat) (x2 : Nat) (x3 : Option Nat) (x4 : Int32) (r : Int32) (h' : jw_H), k23 h x1 x2 x3 x4 = some (r, h') → jw_E 21 (uL_law Ls xs) hi 23 [some (.retAddr 0), some (.ref x1), some (.ref x2), some (va_rf x3), some (.int x4), none, none] [] h (.inl (some (.int r))) h') {h : jw_H} {x1 : Nat} {x2 : Nat} {x3 : Option Nat} {x4 : Int32} {r : Int32} {h' : jw_H} (hq : g_L_law_b299 Ls xs k23 h x1 x2 x3 x4 = some (r, h')) : jw_E 21 (uL_law Ls xs) hi 299 [some (.retAddr 0), some (.ref x1), some (.ref x2), some (va_rf x3), some (.int x4), none, none] [] h (.inl (some (.int r))) h' := by
  unfold g_L_law_b299 at hq
  refine jw_aload_n dL_law_299 (o := (some x1)) rfl ?_
  refine jw_aload_n dL_law_300 (o := x3) rfl ?_
  obtain ⟨w2, h1, ew2, hq⟩ := jw_b2_spec hq
  refine jw_callSW (As := [va_rf (some x1), va_rf x3]) (S := []) (v := some (.int w2)) dL_law_301 mw_L_run st_L_run lw_L_123 (c_L_run ew2) rfl (by decide) (Nat.le_of_ble_eq_true rfl) rfl ?_
  refine jw_istore (L' := [some (.retAddr 0), some (.ref x1), some (.ref x2), some (va_rf x3), some (.int x4), some (.int w2), none]) dL_law_304 (Nat.le_of_ble_eq_true rfl) rfl ?_
  refine jw_aload_n dL_law_306 (o := (some x2)) rfl ?_
  obtain ⟨a3, ea3, hq⟩ := Option.bind_eq_some_iff.mp hq
  obtain ⟨eoa3, eta3⟩ := jw_rc_spec ea3
  obtain ⟨w5, h4, ew5, hq⟩ := jw_b2_spec hq
  refine jw_callV (As := []) (S := []) (a := a3) (v := some (.int w5)) dL_law_307 mt_X12_run in_X12_run se_X12_run lk_L_126 (c_X12_run ew5) eta3 (by decide) rfl rfl (by decide) (Nat.le_of_ble_eq_true rfl) (by cases eoa3; rfl) ?_
  refine jw_istore (L' := [some (.retAddr 0), some (.ref x1), some (.ref x2), some (va_rf x3), some (.int x4), some (.int w2), some (.int w5)]) dL_law_310 (Nat.le_of_ble_eq_true rfl) rfl ?_
  refine jw_aload_n dL_law_312 (o := (some x2)) rfl ?_
  obtain ⟨a6, ea6, hq⟩ := Option.bind_eq_some_iff.mp hq
  obtain ⟨eoa6, eta6⟩ := jw_rc_spec ea6
  obtain ⟨w8, h7, ew8, hq⟩ := jw_b2_spec hq
  refine jw_callV (As := []) (S := []) (a := a6) (v := some (.int w8)) dL_law_313 mt_X12_thrown in_X12_thrown se_X12_thrown lk_L_108 (c_X12_thrown ew8) eta6 (by decide) rfl rfl (by decide) (Nat.le_of_ble_eq_true rfl) (by cases eoa6; rfl) ?_
  refine jw_iload dL_law_316 rfl ?_
  rcases jw_if hq with ⟨c9, hq⟩ | ⟨c9, hq⟩
  · refine jw_icmp_eq_t (tgt := 323) dL_law_318 (by decide) c9 ?_
    refine jw_iload dL_law_323 rfl ?_
    rcases jw_if hq with ⟨c10, hq⟩ | ⟨c10, hq⟩
    · refine jw_if_ne_f (tgt := 340) dL_law_325 (by decide) c10 ?_
      refine jw_aload_n dL_law_328 (o := x3) rfl ?_
      refine jw_iconst dL_law_329 (v := (0 : Int32)) (by decide) ?_
      obtain ⟨v11, ev11, hq⟩ := Option.bind_eq_some_iff.mp hq
      refine jw_lald (o := x3) dL_law_330 ev11 ?_
      refine jw_iload dL_law_331 rfl ?_
      refine jw_i2l dL_law_333 ?_
      refine jw_lcmp dL_law_334 ?_
      rcases jw_if hq with ⟨c12, hq⟩ | ⟨c12, hq⟩
      · refine jw_if_eq_t (tgt := 340) dL_law_335 (by decide) c12 ?_
        refine jw_forget [true, true, true, true, true, false, false] (L' := [some (.retAddr 0), some (.ref x1), some (.ref x2), some (va_rf x3), some (.int x4), none, none]) rfl ?_
        exact l_L_law_b340 hk23 hq
      · refine jw_if_eq_f (tgt := 340) dL_law_335 (by decide) c12 ?_
        refine jw_iconst dL_law_338 (v := (0 : Int32)) (by decide) ?_
        cases hq
        exact jw_iret (ty := .boolean) dL_law_339 rfl rfl
    · refine jw_if_ne_t (tgt := 340) dL_law_325 (by decide) c10 ?_
      refine jw_forget [true, true, true, true, true, false, false] (L' := [some (.retAddr 0), some (.ref x1), some (.ref x2), some (va_rf x3), some (.int x4), none, none]) rfl ?_
      exact l_L_law_b340 hk23 hq
  · refine jw_icmp_eq_f (tgt := 323) dL_law_318 (by decide) c9 ?_
    refine jw_iconst dL_law_321 (v := (0 : Int32)) (by decide) ?_
    cases hq
    exact jw_iret (ty := .boolean) dL_law_322 rfl rfl

set_option maxRecDepth 100000 in
set_option maxHeartbeats 4000000 in
theorem l_L_law_b396 {Ls : Nat} {xs : Nat → Int32} {hi : jw_H} {k23 : jw_H → Nat → Nat → Option Nat → Int32 → Option (Int32 × jw_H)} (hk23 : ∀ (h : jw_H) (x1 : Nat) (x2 : Nat) (x3 : Option Nat) (x4 : Int32) (r : Int32) (h' : jw_H), k23 h x1 x2 x3 x4 = some (r, h') → jw_E 21 (uL_law Ls xs) hi 23 [some (.retAddr 0), some (.ref x1), some (.ref x2), some (va_rf x3), some (.int x4), none, none] [] h (.inl (some (.int r))) h') {h : jw_H} {x1 : Nat} {x2 : Nat} {x3 : Option Nat} {x4 : Int32} {r : Int32} {h' : jw_H} (hq : g_L_law_b396 Ls xs k23 h x1 x2 x3 x4 = some (r, h')) : jw_E 21 (uL_law Ls xs) hi 396 [some (.retAddr 0), some (.ref x1), some (.ref x2), some (va_rf x3), some (.int x4), none, none] [] h (.inl (some (.int r))) h' := by
  unfold g_L_law_b396 at hq
  refine jw_goto (tgt := 1916) dL_law_396 (by decide) ?_
  exact l_L_law_b1916 hk23 hq

set_option maxRecDepth 100000 in
set_option maxHeartbeats 4000000 in
theorem l_L_law_b343 {Ls : Nat} {xs : Nat → Int32} {hi : jw_H} {k23 : jw_H → Nat → Nat → Option Nat → Int32 → Option (Int32 × jw_H)} (hk23 : ∀ (h : jw_H) (x1 : Nat) (x2 : Nat) (x3 : Option Nat) (x4 : Int32) (r : Int32) (h' : jw_H), k23 h x1 x2 x3 x4 = some (r, h') → jw_E 21 (uL_law Ls xs) hi 23 [some (.retAddr 0), some (.ref x1), some (.ref x2), some (va_rf x3), some (.int x4), none, none] [] h (.inl (some (.int r))) h') {h : jw_H} {x1 : Nat} {x2 : Nat} {x3 : Option Nat} {x4 : Int32} {r : Int32} {h' : jw_H} (hq : g_L_law_b343 Ls xs k23 h x1 x2 x3 x4 = some (r, h')) : jw_E 21 (uL_law Ls xs) hi 343 [some (.retAddr 0), some (.ref x1), some (.ref x2), some (va_rf x3), some (.int x4), none, none] [] h (.inl (some (.int r))) h' := by
  unfold g_L_law_b343 at hq
  refine jw_aload_n dL_law_343 (o := (some x1)) rfl ?_
  refine jw_aload_nS dL_law_344 rfl ?_
  refine jw_iload dL_law_345 rfl ?_
  refine jw_iconst dL_law_347 (v := (1 : Int32)) (by decide) ?_
  refine jw_iadd dL_law_348 ?_
  obtain ⟨v1, ev1, hq⟩ := Option.bind_eq_some_iff.mp hq
  refine jw_sld (xs0 := xs) rfl dL_law_349 ev1 ?_
  refine jw_aload_n dL_law_350 (o := x3) rfl ?_
  obtain ⟨w3, h2, ew3, hq⟩ := jw_b2_spec hq
  refine jw_callSW (As := [va_rf (some x1), .int v1, va_rf x3]) (S := []) (v := some (.int w3)) dL_law_351 mw_L_keep st_L_keep lw_L_127 (c_L_keep ew3) rfl (by decide) (Nat.le_of_ble_eq_true rfl) rfl ?_
  refine jw_istore (L' := [some (.retAddr 0), some (.ref x1), some (.ref x2), some (va_rf x3), some (.int x4), some (.int w3), none]) dL_law_354 (Nat.le_of_ble_eq_true rfl) rfl ?_
  refine jw_aload_n dL_law_356 (o := (some x2)) rfl ?_
  refine jw_aload_nS dL_law_357 rfl ?_
  refine jw_iload dL_law_358 rfl ?_
  refine jw_iconst dL_law_360 (v := (1 : Int32)) (by decide) ?_
  refine jw_iadd dL_law_361 ?_
  obtain ⟨v4, ev4, hq⟩ := Option.bind_eq_some_iff.mp hq
  refine jw_sld (xs0 := xs) rfl dL_law_362 ev4 ?_
  obtain ⟨a5, ea5, hq⟩ := Option.bind_eq_some_iff.mp hq
  obtain ⟨eoa5, eta5⟩ := jw_rc_spec ea5
  obtain ⟨w7, h6, ew7, hq⟩ := jw_b2_spec hq
  refine jw_callV (As := [.int v4]) (S := []) (a := a5) (v := some (.int w7)) dL_law_363 mt_X12_keep in_X12_keep se_X12_keep lk_L_129 (c_X12_keep ew7) eta5 (by decide) rfl rfl (by decide) (Nat.le_of_ble_eq_true rfl) (by cases eoa5; rfl) ?_
  refine jw_istore (L' := [some (.retAddr 0), some (.ref x1), some (.ref x2), some (va_rf x3), some (.int x4), some (.int w3), some (.int w7)]) dL_law_366 (Nat.le_of_ble_eq_true rfl) rfl ?_
  refine jw_aload_n dL_law_368 (o := (some x2)) rfl ?_
  obtain ⟨a8, ea8, hq⟩ := Option.bind_eq_some_iff.mp hq
  obtain ⟨eoa8, eta8⟩ := jw_rc_spec ea8
  obtain ⟨w10, h9, ew10, hq⟩ := jw_b2_spec hq
  refine jw_callV (As := []) (S := []) (a := a8) (v := some (.int w10)) dL_law_369 mt_X12_thrown in_X12_thrown se_X12_thrown lk_L_108 (c_X12_thrown ew10) eta8 (by decide) rfl rfl (by decide) (Nat.le_of_ble_eq_true rfl) (by cases eoa8; rfl) ?_
  refine jw_iload dL_law_372 rfl ?_
  rcases jw_if hq with ⟨c11, hq⟩ | ⟨c11, hq⟩
  · refine jw_icmp_eq_t (tgt := 379) dL_law_374 (by decide) c11 ?_
    refine jw_iload dL_law_379 rfl ?_
    rcases jw_if hq with ⟨c12, hq⟩ | ⟨c12, hq⟩
    · refine jw_if_ne_f (tgt := 396) dL_law_381 (by decide) c12 ?_
      refine jw_aload_n dL_law_384 (o := x3) rfl ?_
      refine jw_iconst dL_law_385 (v := (0 : Int32)) (by decide) ?_
      obtain ⟨v13, ev13, hq⟩ := Option.bind_eq_some_iff.mp hq
      refine jw_lald (o := x3) dL_law_386 ev13 ?_
      refine jw_iload dL_law_387 rfl ?_
      refine jw_i2l dL_law_389 ?_
      refine jw_lcmp dL_law_390 ?_
      rcases jw_if hq with ⟨c14, hq⟩ | ⟨c14, hq⟩
      · refine jw_if_eq_t (tgt := 396) dL_law_391 (by decide) c14 ?_
        refine jw_forget [true, true, true, true, true, false, false] (L' := [some (.retAddr 0), some (.ref x1), some (.ref x2), some (va_rf x3), some (.int x4), none, none]) rfl ?_
        exact l_L_law_b396 hk23 hq
      · refine jw_if_eq_f (tgt := 396) dL_law_391 (by decide) c14 ?_
        refine jw_iconst dL_law_394 (v := (0 : Int32)) (by decide) ?_
        cases hq
        exact jw_iret (ty := .boolean) dL_law_395 rfl rfl
    · refine jw_if_ne_t (tgt := 396) dL_law_381 (by decide) c12 ?_
      refine jw_forget [true, true, true, true, true, false, false] (L' := [some (.retAddr 0), some (.ref x1), some (.ref x2), some (va_rf x3), some (.int x4), none, none]) rfl ?_
      exact l_L_law_b396 hk23 hq
  · refine jw_icmp_eq_f (tgt := 379) dL_law_374 (by decide) c11 ?_
    refine jw_iconst dL_law_377 (v := (0 : Int32)) (by decide) ?_
    cases hq
    exact jw_iret (ty := .boolean) dL_law_378 rfl rfl

set_option maxRecDepth 100000 in
set_option maxHeartbeats 4000000 in
theorem l_L_law_b452 {Ls : Nat} {xs : Nat → Int32} {hi : jw_H} {k23 : jw_H → Nat → Nat → Option Nat → Int32 → Option (Int32 × jw_H)} (hk23 : ∀ (h : jw_H) (x1 : Nat) (x2 : Nat) (x3 : Option Nat) (x4 : Int32) (r : Int32) (h' : jw_H), k23 h x1 x2 x3 x4 = some (r, h') → jw_E 21 (uL_law Ls xs) hi 23 [some (.retAddr 0), some (.ref x1), some (.ref x2), some (va_rf x3), some (.int x4), none, none] [] h (.inl (some (.int r))) h') {h : jw_H} {x1 : Nat} {x2 : Nat} {x3 : Option Nat} {x4 : Int32} {r : Int32} {h' : jw_H} (hq : g_L_law_b452 Ls xs k23 h x1 x2 x3 x4 = some (r, h')) : jw_E 21 (uL_law Ls xs) hi 452 [some (.retAddr 0), some (.ref x1), some (.ref x2), some (va_rf x3), some (.int x4), none, none] [] h (.inl (some (.int r))) h' := by
  unfold g_L_law_b452 at hq
  refine jw_goto (tgt := 1916) dL_law_452 (by decide) ?_
  exact l_L_law_b1916 hk23 hq

set_option maxRecDepth 100000 in
set_option maxHeartbeats 4000000 in
theorem l_L_law_b399 {Ls : Nat} {xs : Nat → Int32} {hi : jw_H} {k23 : jw_H → Nat → Nat → Option Nat → Int32 → Option (Int32 × jw_H)} (hk23 : ∀ (h : jw_H) (x1 : Nat) (x2 : Nat) (x3 : Option Nat) (x4 : Int32) (r : Int32) (h' : jw_H), k23 h x1 x2 x3 x4 = some (r, h') → jw_E 21 (uL_law Ls xs) hi 23 [some (.retAddr 0), some (.ref x1), some (.ref x2), some (va_rf x3), some (.int x4), none, none] [] h (.inl (some (.int r))) h') {h : jw_H} {x1 : Nat} {x2 : Nat} {x3 : Option Nat} {x4 : Int32} {r : Int32} {h' : jw_H} (hq : g_L_law_b399 Ls xs k23 h x1 x2 x3 x4 = some (r, h')) : jw_E 21 (uL_law Ls xs) hi 399 [some (.retAddr 0), some (.ref x1), some (.ref x2), some (va_rf x3), some (.int x4), none, none] [] h (.inl (some (.int r))) h' := by
  unfold g_L_law_b399 at hq
  refine jw_aload_n dL_law_399 (o := (some x1)) rfl ?_
  refine jw_aload_nS dL_law_400 rfl ?_
  refine jw_iload dL_law_401 rfl ?_
  refine jw_iconst dL_law_403 (v := (1 : Int32)) (by decide) ?_
  refine jw_iadd dL_law_404 ?_
  obtain ⟨v1, ev1, hq⟩ := Option.bind_eq_some_iff.mp hq
  refine jw_sld (xs0 := xs) rfl dL_law_405 ev1 ?_
  refine jw_aload_n dL_law_406 (o := x3) rfl ?_
  obtain ⟨w3, h2, ew3, hq⟩ := jw_b2_spec hq
  refine jw_callSW (As := [va_rf (some x1), .int v1, va_rf x3]) (S := []) (v := some (.int w3)) dL_law_407 mw_L_play st_L_play lw_L_130 (c_L_play ew3) rfl (by decide) (Nat.le_of_ble_eq_true rfl) rfl ?_
  refine jw_istore (L' := [some (.retAddr 0), some (.ref x1), some (.ref x2), some (va_rf x3), some (.int x4), some (.int w3), none]) dL_law_410 (Nat.le_of_ble_eq_true rfl) rfl ?_
  refine jw_aload_n dL_law_412 (o := (some x2)) rfl ?_
  refine jw_aload_nS dL_law_413 rfl ?_
  refine jw_iload dL_law_414 rfl ?_
  refine jw_iconst dL_law_416 (v := (1 : Int32)) (by decide) ?_
  refine jw_iadd dL_law_417 ?_
  obtain ⟨v4, ev4, hq⟩ := Option.bind_eq_some_iff.mp hq
  refine jw_sld (xs0 := xs) rfl dL_law_418 ev4 ?_
  obtain ⟨a5, ea5, hq⟩ := Option.bind_eq_some_iff.mp hq
  obtain ⟨eoa5, eta5⟩ := jw_rc_spec ea5
  obtain ⟨w7, h6, ew7, hq⟩ := jw_b2_spec hq
  refine jw_callV (As := [.int v4]) (S := []) (a := a5) (v := some (.int w7)) dL_law_419 mt_X12_play in_X12_play se_X12_play lk_L_132 (c_X12_play ew7) eta5 (by decide) rfl rfl (by decide) (Nat.le_of_ble_eq_true rfl) (by cases eoa5; rfl) ?_
  refine jw_istore (L' := [some (.retAddr 0), some (.ref x1), some (.ref x2), some (va_rf x3), some (.int x4), some (.int w3), some (.int w7)]) dL_law_422 (Nat.le_of_ble_eq_true rfl) rfl ?_
  refine jw_aload_n dL_law_424 (o := (some x2)) rfl ?_
  obtain ⟨a8, ea8, hq⟩ := Option.bind_eq_some_iff.mp hq
  obtain ⟨eoa8, eta8⟩ := jw_rc_spec ea8
  obtain ⟨w10, h9, ew10, hq⟩ := jw_b2_spec hq
  refine jw_callV (As := []) (S := []) (a := a8) (v := some (.int w10)) dL_law_425 mt_X12_thrown in_X12_thrown se_X12_thrown lk_L_108 (c_X12_thrown ew10) eta8 (by decide) rfl rfl (by decide) (Nat.le_of_ble_eq_true rfl) (by cases eoa8; rfl) ?_
  refine jw_iload dL_law_428 rfl ?_
  rcases jw_if hq with ⟨c11, hq⟩ | ⟨c11, hq⟩
  · refine jw_icmp_eq_t (tgt := 435) dL_law_430 (by decide) c11 ?_
    refine jw_iload dL_law_435 rfl ?_
    rcases jw_if hq with ⟨c12, hq⟩ | ⟨c12, hq⟩
    · refine jw_if_ne_f (tgt := 452) dL_law_437 (by decide) c12 ?_
      refine jw_aload_n dL_law_440 (o := x3) rfl ?_
      refine jw_iconst dL_law_441 (v := (0 : Int32)) (by decide) ?_
      obtain ⟨v13, ev13, hq⟩ := Option.bind_eq_some_iff.mp hq
      refine jw_lald (o := x3) dL_law_442 ev13 ?_
      refine jw_iload dL_law_443 rfl ?_
      refine jw_i2l dL_law_445 ?_
      refine jw_lcmp dL_law_446 ?_
      rcases jw_if hq with ⟨c14, hq⟩ | ⟨c14, hq⟩
      · refine jw_if_eq_t (tgt := 452) dL_law_447 (by decide) c14 ?_
        refine jw_forget [true, true, true, true, true, false, false] (L' := [some (.retAddr 0), some (.ref x1), some (.ref x2), some (va_rf x3), some (.int x4), none, none]) rfl ?_
        exact l_L_law_b452 hk23 hq
      · refine jw_if_eq_f (tgt := 452) dL_law_447 (by decide) c14 ?_
        refine jw_iconst dL_law_450 (v := (0 : Int32)) (by decide) ?_
        cases hq
        exact jw_iret (ty := .boolean) dL_law_451 rfl rfl
    · refine jw_if_ne_t (tgt := 452) dL_law_437 (by decide) c12 ?_
      refine jw_forget [true, true, true, true, true, false, false] (L' := [some (.retAddr 0), some (.ref x1), some (.ref x2), some (va_rf x3), some (.int x4), none, none]) rfl ?_
      exact l_L_law_b452 hk23 hq
  · refine jw_icmp_eq_f (tgt := 435) dL_law_430 (by decide) c11 ?_
    refine jw_iconst dL_law_433 (v := (0 : Int32)) (by decide) ?_
    cases hq
    exact jw_iret (ty := .boolean) dL_law_434 rfl rfl

set_option maxRecDepth 100000 in
set_option maxHeartbeats 4000000 in
theorem l_L_law_b508 {Ls : Nat} {xs : Nat → Int32} {hi : jw_H} {k23 : jw_H → Nat → Nat → Option Nat → Int32 → Option (Int32 × jw_H)} (hk23 : ∀ (h : jw_H) (x1 : Nat) (x2 : Nat) (x3 : Option Nat) (x4 : Int32) (r : Int32) (h' : jw_H), k23 h x1 x2 x3 x4 = some (r, h') → jw_E 21 (uL_law Ls xs) hi 23 [some (.retAddr 0), some (.ref x1), some (.ref x2), some (va_rf x3), some (.int x4), none, none] [] h (.inl (some (.int r))) h') {h : jw_H} {x1 : Nat} {x2 : Nat} {x3 : Option Nat} {x4 : Int32} {r : Int32} {h' : jw_H} (hq : g_L_law_b508 Ls xs k23 h x1 x2 x3 x4 = some (r, h')) : jw_E 21 (uL_law Ls xs) hi 508 [some (.retAddr 0), some (.ref x1), some (.ref x2), some (va_rf x3), some (.int x4), none, none] [] h (.inl (some (.int r))) h' := by
  unfold g_L_law_b508 at hq
  refine jw_goto (tgt := 1916) dL_law_508 (by decide) ?_
  exact l_L_law_b1916 hk23 hq

set_option maxRecDepth 100000 in
set_option maxHeartbeats 4000000 in
theorem l_L_law_b455 {Ls : Nat} {xs : Nat → Int32} {hi : jw_H} {k23 : jw_H → Nat → Nat → Option Nat → Int32 → Option (Int32 × jw_H)} (hk23 : ∀ (h : jw_H) (x1 : Nat) (x2 : Nat) (x3 : Option Nat) (x4 : Int32) (r : Int32) (h' : jw_H), k23 h x1 x2 x3 x4 = some (r, h') → jw_E 21 (uL_law Ls xs) hi 23 [some (.retAddr 0), some (.ref x1), some (.ref x2), some (va_rf x3), some (.int x4), none, none] [] h (.inl (some (.int r))) h') {h : jw_H} {x1 : Nat} {x2 : Nat} {x3 : Option Nat} {x4 : Int32} {r : Int32} {h' : jw_H} (hq : g_L_law_b455 Ls xs k23 h x1 x2 x3 x4 = some (r, h')) : jw_E 21 (uL_law Ls xs) hi 455 [some (.retAddr 0), some (.ref x1), some (.ref x2), some (va_rf x3), some (.int x4), none, none] [] h (.inl (some (.int r))) h' := by
  unfold g_L_law_b455 at hq
  refine jw_aload_n dL_law_455 (o := (some x1)) rfl ?_
  refine jw_aload_nS dL_law_456 rfl ?_
  refine jw_iload dL_law_457 rfl ?_
  refine jw_iconst dL_law_459 (v := (1 : Int32)) (by decide) ?_
  refine jw_iadd dL_law_460 ?_
  obtain ⟨v1, ev1, hq⟩ := Option.bind_eq_some_iff.mp hq
  refine jw_sld (xs0 := xs) rfl dL_law_461 ev1 ?_
  refine jw_aload_n dL_law_462 (o := x3) rfl ?_
  obtain ⟨w3, h2, ew3, hq⟩ := jw_b2_spec hq
  refine jw_callSW (As := [va_rf (some x1), .int v1, va_rf x3]) (S := []) (v := some (.int w3)) dL_law_463 mw_L_stream st_L_stream lw_L_133 (c_L_stream ew3) rfl (by decide) (Nat.le_of_ble_eq_true rfl) rfl ?_
  refine jw_istore (L' := [some (.retAddr 0), some (.ref x1), some (.ref x2), some (va_rf x3), some (.int x4), some (.int w3), none]) dL_law_466 (Nat.le_of_ble_eq_true rfl) rfl ?_
  refine jw_aload_n dL_law_468 (o := (some x2)) rfl ?_
  refine jw_aload_nS dL_law_469 rfl ?_
  refine jw_iload dL_law_470 rfl ?_
  refine jw_iconst dL_law_472 (v := (1 : Int32)) (by decide) ?_
  refine jw_iadd dL_law_473 ?_
  obtain ⟨v4, ev4, hq⟩ := Option.bind_eq_some_iff.mp hq
  refine jw_sld (xs0 := xs) rfl dL_law_474 ev4 ?_
  obtain ⟨a5, ea5, hq⟩ := Option.bind_eq_some_iff.mp hq
  obtain ⟨eoa5, eta5⟩ := jw_rc_spec ea5
  obtain ⟨w7, h6, ew7, hq⟩ := jw_b2_spec hq
  refine jw_callV (As := [.int v4]) (S := []) (a := a5) (v := some (.int w7)) dL_law_475 mt_X12_stream in_X12_stream se_X12_stream lk_L_135 (c_X12_stream ew7) eta5 (by decide) rfl rfl (by decide) (Nat.le_of_ble_eq_true rfl) (by cases eoa5; rfl) ?_
  refine jw_istore (L' := [some (.retAddr 0), some (.ref x1), some (.ref x2), some (va_rf x3), some (.int x4), some (.int w3), some (.int w7)]) dL_law_478 (Nat.le_of_ble_eq_true rfl) rfl ?_
  refine jw_aload_n dL_law_480 (o := (some x2)) rfl ?_
  obtain ⟨a8, ea8, hq⟩ := Option.bind_eq_some_iff.mp hq
  obtain ⟨eoa8, eta8⟩ := jw_rc_spec ea8
  obtain ⟨w10, h9, ew10, hq⟩ := jw_b2_spec hq
  refine jw_callV (As := []) (S := []) (a := a8) (v := some (.int w10)) dL_law_481 mt_X12_thrown in_X12_thrown se_X12_thrown lk_L_108 (c_X12_thrown ew10) eta8 (by decide) rfl rfl (by decide) (Nat.le_of_ble_eq_true rfl) (by cases eoa8; rfl) ?_
  refine jw_iload dL_law_484 rfl ?_
  rcases jw_if hq with ⟨c11, hq⟩ | ⟨c11, hq⟩
  · refine jw_icmp_eq_t (tgt := 491) dL_law_486 (by decide) c11 ?_
    refine jw_iload dL_law_491 rfl ?_
    rcases jw_if hq with ⟨c12, hq⟩ | ⟨c12, hq⟩
    · refine jw_if_ne_f (tgt := 508) dL_law_493 (by decide) c12 ?_
      refine jw_aload_n dL_law_496 (o := x3) rfl ?_
      refine jw_iconst dL_law_497 (v := (0 : Int32)) (by decide) ?_
      obtain ⟨v13, ev13, hq⟩ := Option.bind_eq_some_iff.mp hq
      refine jw_lald (o := x3) dL_law_498 ev13 ?_
      refine jw_iload dL_law_499 rfl ?_
      refine jw_i2l dL_law_501 ?_
      refine jw_lcmp dL_law_502 ?_
      rcases jw_if hq with ⟨c14, hq⟩ | ⟨c14, hq⟩
      · refine jw_if_eq_t (tgt := 508) dL_law_503 (by decide) c14 ?_
        refine jw_forget [true, true, true, true, true, false, false] (L' := [some (.retAddr 0), some (.ref x1), some (.ref x2), some (va_rf x3), some (.int x4), none, none]) rfl ?_
        exact l_L_law_b508 hk23 hq
      · refine jw_if_eq_f (tgt := 508) dL_law_503 (by decide) c14 ?_
        refine jw_iconst dL_law_506 (v := (0 : Int32)) (by decide) ?_
        cases hq
        exact jw_iret (ty := .boolean) dL_law_507 rfl rfl
    · refine jw_if_ne_t (tgt := 508) dL_law_493 (by decide) c12 ?_
      refine jw_forget [true, true, true, true, true, false, false] (L' := [some (.retAddr 0), some (.ref x1), some (.ref x2), some (va_rf x3), some (.int x4), none, none]) rfl ?_
      exact l_L_law_b508 hk23 hq
  · refine jw_icmp_eq_f (tgt := 491) dL_law_486 (by decide) c11 ?_
    refine jw_iconst dL_law_489 (v := (0 : Int32)) (by decide) ?_
    cases hq
    exact jw_iret (ty := .boolean) dL_law_490 rfl rfl

set_option maxRecDepth 100000 in
set_option maxHeartbeats 4000000 in
theorem l_L_law_b511 {Ls : Nat} {xs : Nat → Int32} {hi : jw_H} {k23 : jw_H → Nat → Nat → Option Nat → Int32 → Option (Int32 × jw_H)} (hk23 : ∀ (h : jw_H) (x1 : Nat) (x2 : Nat) (x3 : Option Nat) (x4 : Int32) (r : Int32) (h' : jw_H), k23 h x1 x2 x3 x4 = some (r, h') → jw_E 21 (uL_law Ls xs) hi 23 [some (.retAddr 0), some (.ref x1), some (.ref x2), some (va_rf x3), some (.int x4), none, none] [] h (.inl (some (.int r))) h') {h : jw_H} {x1 : Nat} {x2 : Nat} {x3 : Option Nat} {x4 : Int32} {r : Int32} {h' : jw_H} (hq : g_L_law_b511 Ls xs k23 h x1 x2 x3 x4 = some (r, h')) : jw_E 21 (uL_law Ls xs) hi 511 [some (.retAddr 0), some (.ref x1), some (.ref x2), some (va_rf x3), some (.int x4), none, none] [] h (.inl (some (.int r))) h' := by
  unfold g_L_law_b511 at hq
  refine jw_aload_n dL_law_511 (o := (some x1)) rfl ?_
  obtain ⟨a1, ea1, hq⟩ := Option.bind_eq_some_iff.mp hq
  obtain ⟨eoa1, eta1⟩ := jw_rc_spec ea1
  obtain ⟨w3, h2, ew3, hq⟩ := jw_b2_spec hq
  refine jw_callV (As := []) (S := []) (a := a1) (v := some (.int w3)) dL_law_512 mt_X11_reason in_X11_reason se_X11_reason lk_L_136 (c_X11_reason ew3) eta1 (by decide) rfl rfl (by decide) (Nat.le_of_ble_eq_true rfl) (by cases eoa1; rfl) ?_
  refine jw_aload_n dL_law_515 (o := (some x2)) rfl ?_
  obtain ⟨a4, ea4, hq⟩ := Option.bind_eq_some_iff.mp hq
  obtain ⟨eoa4, eta4⟩ := jw_rc_spec ea4
  obtain ⟨w6, h5, ew6, hq⟩ := jw_b2_spec hq
  refine jw_callV (As := []) (S := [.int w3]) (a := a4) (v := some (.int w6)) dL_law_516 mt_X12_reason in_X12_reason se_X12_reason lk_L_139 (c_X12_reason ew6) eta4 (by decide) rfl rfl (by decide) (Nat.le_of_ble_eq_true rfl) (by cases eoa4; rfl) ?_
  rcases jw_if hq with ⟨c7, hq⟩ | ⟨c7, hq⟩
  · refine jw_icmp_eq_t (tgt := 1916) dL_law_519 (by decide) c7 ?_
    exact l_L_law_b1916 hk23 hq
  · refine jw_icmp_eq_f (tgt := 1916) dL_law_519 (by decide) c7 ?_
    refine jw_iconst dL_law_522 (v := (0 : Int32)) (by decide) ?_
    cases hq
    exact jw_iret (ty := .boolean) dL_law_523 rfl rfl

set_option maxRecDepth 100000 in
set_option maxHeartbeats 4000000 in
theorem l_L_law_b577 {Ls : Nat} {xs : Nat → Int32} {hi : jw_H} {k23 : jw_H → Nat → Nat → Option Nat → Int32 → Option (Int32 × jw_H)} (hk23 : ∀ (h : jw_H) (x1 : Nat) (x2 : Nat) (x3 : Option Nat) (x4 : Int32) (r : Int32) (h' : jw_H), k23 h x1 x2 x3 x4 = some (r, h') → jw_E 21 (uL_law Ls xs) hi 23 [some (.retAddr 0), some (.ref x1), some (.ref x2), some (va_rf x3), some (.int x4), none, none] [] h (.inl (some (.int r))) h') {h : jw_H} {x1 : Nat} {x2 : Nat} {x3 : Option Nat} {x4 : Int32} {r : Int32} {h' : jw_H} (hq : g_L_law_b577 Ls xs k23 h x1 x2 x3 x4 = some (r, h')) : jw_E 21 (uL_law Ls xs) hi 577 [some (.retAddr 0), some (.ref x1), some (.ref x2), some (va_rf x3), some (.int x4), none, none] [] h (.inl (some (.int r))) h' := by
  unfold g_L_law_b577 at hq
  refine jw_goto (tgt := 1916) dL_law_577 (by decide) ?_
  exact l_L_law_b1916 hk23 hq

set_option maxRecDepth 100000 in
set_option maxHeartbeats 4000000 in
theorem l_L_law_b524 {Ls : Nat} {xs : Nat → Int32} {hi : jw_H} {k23 : jw_H → Nat → Nat → Option Nat → Int32 → Option (Int32 × jw_H)} (hk23 : ∀ (h : jw_H) (x1 : Nat) (x2 : Nat) (x3 : Option Nat) (x4 : Int32) (r : Int32) (h' : jw_H), k23 h x1 x2 x3 x4 = some (r, h') → jw_E 21 (uL_law Ls xs) hi 23 [some (.retAddr 0), some (.ref x1), some (.ref x2), some (va_rf x3), some (.int x4), none, none] [] h (.inl (some (.int r))) h') {h : jw_H} {x1 : Nat} {x2 : Nat} {x3 : Option Nat} {x4 : Int32} {r : Int32} {h' : jw_H} (hq : g_L_law_b524 Ls xs k23 h x1 x2 x3 x4 = some (r, h')) : jw_E 21 (uL_law Ls xs) hi 524 [some (.retAddr 0), some (.ref x1), some (.ref x2), some (va_rf x3), some (.int x4), none, none] [] h (.inl (some (.int r))) h' := by
  unfold g_L_law_b524 at hq
  refine jw_aload_n dL_law_524 (o := (some x1)) rfl ?_
  refine jw_aload_nS dL_law_525 rfl ?_
  refine jw_iload dL_law_526 rfl ?_
  refine jw_iconst dL_law_528 (v := (1 : Int32)) (by decide) ?_
  refine jw_iadd dL_law_529 ?_
  obtain ⟨v1, ev1, hq⟩ := Option.bind_eq_some_iff.mp hq
  refine jw_sld (xs0 := xs) rfl dL_law_530 ev1 ?_
  refine jw_aload_n dL_law_531 (o := x3) rfl ?_
  obtain ⟨w3, h2, ew3, hq⟩ := jw_b2_spec hq
  refine jw_callSW (As := [va_rf (some x1), .int v1, va_rf x3]) (S := []) (v := some (.int w3)) dL_law_532 mw_L_scriptLength st_L_scriptLength lw_L_140 (c_L_scriptLength ew3) rfl (by decide) (Nat.le_of_ble_eq_true rfl) rfl ?_
  refine jw_istore (L' := [some (.retAddr 0), some (.ref x1), some (.ref x2), some (va_rf x3), some (.int x4), some (.int w3), none]) dL_law_535 (Nat.le_of_ble_eq_true rfl) rfl ?_
  refine jw_aload_n dL_law_537 (o := (some x2)) rfl ?_
  refine jw_aload_nS dL_law_538 rfl ?_
  refine jw_iload dL_law_539 rfl ?_
  refine jw_iconst dL_law_541 (v := (1 : Int32)) (by decide) ?_
  refine jw_iadd dL_law_542 ?_
  obtain ⟨v4, ev4, hq⟩ := Option.bind_eq_some_iff.mp hq
  refine jw_sld (xs0 := xs) rfl dL_law_543 ev4 ?_
  obtain ⟨a5, ea5, hq⟩ := Option.bind_eq_some_iff.mp hq
  obtain ⟨eoa5, eta5⟩ := jw_rc_spec ea5
  obtain ⟨w7, h6, ew7, hq⟩ := jw_b2_spec hq
  refine jw_callV (As := [.int v4]) (S := []) (a := a5) (v := some (.int w7)) dL_law_544 mt_X12_scriptLength in_X12_scriptLength se_X12_scriptLength lk_L_142 (c_X12_scriptLength ew7) eta5 (by decide) rfl rfl (by decide) (Nat.le_of_ble_eq_true rfl) (by cases eoa5; rfl) ?_
  refine jw_istore (L' := [some (.retAddr 0), some (.ref x1), some (.ref x2), some (va_rf x3), some (.int x4), some (.int w3), some (.int w7)]) dL_law_547 (Nat.le_of_ble_eq_true rfl) rfl ?_
  refine jw_aload_n dL_law_549 (o := (some x2)) rfl ?_
  obtain ⟨a8, ea8, hq⟩ := Option.bind_eq_some_iff.mp hq
  obtain ⟨eoa8, eta8⟩ := jw_rc_spec ea8
  obtain ⟨w10, h9, ew10, hq⟩ := jw_b2_spec hq
  refine jw_callV (As := []) (S := []) (a := a8) (v := some (.int w10)) dL_law_550 mt_X12_thrown in_X12_thrown se_X12_thrown lk_L_108 (c_X12_thrown ew10) eta8 (by decide) rfl rfl (by decide) (Nat.le_of_ble_eq_true rfl) (by cases eoa8; rfl) ?_
  refine jw_iload dL_law_553 rfl ?_
  rcases jw_if hq with ⟨c11, hq⟩ | ⟨c11, hq⟩
  · refine jw_icmp_eq_t (tgt := 560) dL_law_555 (by decide) c11 ?_
    refine jw_iload dL_law_560 rfl ?_
    rcases jw_if hq with ⟨c12, hq⟩ | ⟨c12, hq⟩
    · refine jw_if_ne_f (tgt := 577) dL_law_562 (by decide) c12 ?_
      refine jw_aload_n dL_law_565 (o := x3) rfl ?_
      refine jw_iconst dL_law_566 (v := (0 : Int32)) (by decide) ?_
      obtain ⟨v13, ev13, hq⟩ := Option.bind_eq_some_iff.mp hq
      refine jw_lald (o := x3) dL_law_567 ev13 ?_
      refine jw_iload dL_law_568 rfl ?_
      refine jw_i2l dL_law_570 ?_
      refine jw_lcmp dL_law_571 ?_
      rcases jw_if hq with ⟨c14, hq⟩ | ⟨c14, hq⟩
      · refine jw_if_eq_t (tgt := 577) dL_law_572 (by decide) c14 ?_
        refine jw_forget [true, true, true, true, true, false, false] (L' := [some (.retAddr 0), some (.ref x1), some (.ref x2), some (va_rf x3), some (.int x4), none, none]) rfl ?_
        exact l_L_law_b577 hk23 hq
      · refine jw_if_eq_f (tgt := 577) dL_law_572 (by decide) c14 ?_
        refine jw_iconst dL_law_575 (v := (0 : Int32)) (by decide) ?_
        cases hq
        exact jw_iret (ty := .boolean) dL_law_576 rfl rfl
    · refine jw_if_ne_t (tgt := 577) dL_law_562 (by decide) c12 ?_
      refine jw_forget [true, true, true, true, true, false, false] (L' := [some (.retAddr 0), some (.ref x1), some (.ref x2), some (va_rf x3), some (.int x4), none, none]) rfl ?_
      exact l_L_law_b577 hk23 hq
  · refine jw_icmp_eq_f (tgt := 560) dL_law_555 (by decide) c11 ?_
    refine jw_iconst dL_law_558 (v := (0 : Int32)) (by decide) ?_
    cases hq
    exact jw_iret (ty := .boolean) dL_law_559 rfl rfl

set_option maxRecDepth 100000 in
set_option maxHeartbeats 4000000 in
theorem l_L_law_b645 {Ls : Nat} {xs : Nat → Int32} {hi : jw_H} {k23 : jw_H → Nat → Nat → Option Nat → Int32 → Option (Int32 × jw_H)} (hk23 : ∀ (h : jw_H) (x1 : Nat) (x2 : Nat) (x3 : Option Nat) (x4 : Int32) (r : Int32) (h' : jw_H), k23 h x1 x2 x3 x4 = some (r, h') → jw_E 21 (uL_law Ls xs) hi 23 [some (.retAddr 0), some (.ref x1), some (.ref x2), some (va_rf x3), some (.int x4), none, none] [] h (.inl (some (.int r))) h') {h : jw_H} {x1 : Nat} {x2 : Nat} {x3 : Option Nat} {x4 : Int32} {r : Int32} {h' : jw_H} (hq : g_L_law_b645 Ls xs k23 h x1 x2 x3 x4 = some (r, h')) : jw_E 21 (uL_law Ls xs) hi 645 [some (.retAddr 0), some (.ref x1), some (.ref x2), some (va_rf x3), some (.int x4), none, none] [] h (.inl (some (.int r))) h' := by
  unfold g_L_law_b645 at hq
  refine jw_goto (tgt := 1916) dL_law_645 (by decide) ?_
  exact l_L_law_b1916 hk23 hq

set_option maxRecDepth 100000 in
set_option maxHeartbeats 4000000 in
theorem l_L_law_b580 {Ls : Nat} {xs : Nat → Int32} {hi : jw_H} {k23 : jw_H → Nat → Nat → Option Nat → Int32 → Option (Int32 × jw_H)} (hk23 : ∀ (h : jw_H) (x1 : Nat) (x2 : Nat) (x3 : Option Nat) (x4 : Int32) (r : Int32) (h' : jw_H), k23 h x1 x2 x3 x4 = some (r, h') → jw_E 21 (uL_law Ls xs) hi 23 [some (.retAddr 0), some (.ref x1), some (.ref x2), some (va_rf x3), some (.int x4), none, none] [] h (.inl (some (.int r))) h') {h : jw_H} {x1 : Nat} {x2 : Nat} {x3 : Option Nat} {x4 : Int32} {r : Int32} {h' : jw_H} (hq : g_L_law_b580 Ls xs k23 h x1 x2 x3 x4 = some (r, h')) : jw_E 21 (uL_law Ls xs) hi 580 [some (.retAddr 0), some (.ref x1), some (.ref x2), some (va_rf x3), some (.int x4), none, none] [] h (.inl (some (.int r))) h' := by
  unfold g_L_law_b580 at hq
  refine jw_aload_n dL_law_580 (o := (some x1)) rfl ?_
  refine jw_aload_nS dL_law_581 rfl ?_
  refine jw_iload dL_law_582 rfl ?_
  refine jw_iconst dL_law_584 (v := (1 : Int32)) (by decide) ?_
  refine jw_iadd dL_law_585 ?_
  obtain ⟨v1, ev1, hq⟩ := Option.bind_eq_some_iff.mp hq
  refine jw_sld (xs0 := xs) rfl dL_law_586 ev1 ?_
  refine jw_aload_nS dL_law_587 rfl ?_
  refine jw_iload dL_law_588 rfl ?_
  refine jw_iconst dL_law_590 (v := (2 : Int32)) (by decide) ?_
  refine jw_iadd dL_law_591 ?_
  obtain ⟨v2, ev2, hq⟩ := Option.bind_eq_some_iff.mp hq
  refine jw_sld (xs0 := xs) rfl dL_law_592 ev2 ?_
  refine jw_aload_n dL_law_593 (o := x3) rfl ?_
  obtain ⟨w4, h3, ew4, hq⟩ := jw_b2_spec hq
  refine jw_callSW (As := [va_rf (some x1), .int v1, .int v2, va_rf x3]) (S := []) (v := some (.int w4)) dL_law_594 mw_L_scriptAt st_L_scriptAt lw_L_143 (c_L_scriptAt ew4) rfl (by decide) (Nat.le_of_ble_eq_true rfl) rfl ?_
  refine jw_istore (L' := [some (.retAddr 0), some (.ref x1), some (.ref x2), some (va_rf x3), some (.int x4), some (.int w4), none]) dL_law_597 (Nat.le_of_ble_eq_true rfl) rfl ?_
  refine jw_aload_n dL_law_599 (o := (some x2)) rfl ?_
  refine jw_aload_nS dL_law_600 rfl ?_
  refine jw_iload dL_law_601 rfl ?_
  refine jw_iconst dL_law_603 (v := (1 : Int32)) (by decide) ?_
  refine jw_iadd dL_law_604 ?_
  obtain ⟨v5, ev5, hq⟩ := Option.bind_eq_some_iff.mp hq
  refine jw_sld (xs0 := xs) rfl dL_law_605 ev5 ?_
  refine jw_aload_nS dL_law_606 rfl ?_
  refine jw_iload dL_law_607 rfl ?_
  refine jw_iconst dL_law_609 (v := (2 : Int32)) (by decide) ?_
  refine jw_iadd dL_law_610 ?_
  obtain ⟨v6, ev6, hq⟩ := Option.bind_eq_some_iff.mp hq
  refine jw_sld (xs0 := xs) rfl dL_law_611 ev6 ?_
  obtain ⟨a7, ea7, hq⟩ := Option.bind_eq_some_iff.mp hq
  obtain ⟨eoa7, eta7⟩ := jw_rc_spec ea7
  obtain ⟨w9, h8, ew9, hq⟩ := jw_b2_spec hq
  refine jw_callV (As := [.int v5, .int v6]) (S := []) (a := a7) (v := some (.int w9)) dL_law_612 mt_X12_scriptAt in_X12_scriptAt se_X12_scriptAt lk_L_146 (c_X12_scriptAt ew9) eta7 (by decide) rfl rfl (by decide) (Nat.le_of_ble_eq_true rfl) (by cases eoa7; rfl) ?_
  refine jw_istore (L' := [some (.retAddr 0), some (.ref x1), some (.ref x2), some (va_rf x3), some (.int x4), some (.int w4), some (.int w9)]) dL_law_615 (Nat.le_of_ble_eq_true rfl) rfl ?_
  refine jw_aload_n dL_law_617 (o := (some x2)) rfl ?_
  obtain ⟨a10, ea10, hq⟩ := Option.bind_eq_some_iff.mp hq
  obtain ⟨eoa10, eta10⟩ := jw_rc_spec ea10
  obtain ⟨w12, h11, ew12, hq⟩ := jw_b2_spec hq
  refine jw_callV (As := []) (S := []) (a := a10) (v := some (.int w12)) dL_law_618 mt_X12_thrown in_X12_thrown se_X12_thrown lk_L_108 (c_X12_thrown ew12) eta10 (by decide) rfl rfl (by decide) (Nat.le_of_ble_eq_true rfl) (by cases eoa10; rfl) ?_
  refine jw_iload dL_law_621 rfl ?_
  rcases jw_if hq with ⟨c13, hq⟩ | ⟨c13, hq⟩
  · refine jw_icmp_eq_t (tgt := 628) dL_law_623 (by decide) c13 ?_
    refine jw_iload dL_law_628 rfl ?_
    rcases jw_if hq with ⟨c14, hq⟩ | ⟨c14, hq⟩
    · refine jw_if_ne_f (tgt := 645) dL_law_630 (by decide) c14 ?_
      refine jw_aload_n dL_law_633 (o := x3) rfl ?_
      refine jw_iconst dL_law_634 (v := (0 : Int32)) (by decide) ?_
      obtain ⟨v15, ev15, hq⟩ := Option.bind_eq_some_iff.mp hq
      refine jw_lald (o := x3) dL_law_635 ev15 ?_
      refine jw_iload dL_law_636 rfl ?_
      refine jw_i2l dL_law_638 ?_
      refine jw_lcmp dL_law_639 ?_
      rcases jw_if hq with ⟨c16, hq⟩ | ⟨c16, hq⟩
      · refine jw_if_eq_t (tgt := 645) dL_law_640 (by decide) c16 ?_
        refine jw_forget [true, true, true, true, true, false, false] (L' := [some (.retAddr 0), some (.ref x1), some (.ref x2), some (va_rf x3), some (.int x4), none, none]) rfl ?_
        exact l_L_law_b645 hk23 hq
      · refine jw_if_eq_f (tgt := 645) dL_law_640 (by decide) c16 ?_
        refine jw_iconst dL_law_643 (v := (0 : Int32)) (by decide) ?_
        cases hq
        exact jw_iret (ty := .boolean) dL_law_644 rfl rfl
    · refine jw_if_ne_t (tgt := 645) dL_law_630 (by decide) c14 ?_
      refine jw_forget [true, true, true, true, true, false, false] (L' := [some (.retAddr 0), some (.ref x1), some (.ref x2), some (va_rf x3), some (.int x4), none, none]) rfl ?_
      exact l_L_law_b645 hk23 hq
  · refine jw_icmp_eq_f (tgt := 628) dL_law_623 (by decide) c13 ?_
    refine jw_iconst dL_law_626 (v := (0 : Int32)) (by decide) ?_
    cases hq
    exact jw_iret (ty := .boolean) dL_law_627 rfl rfl

set_option maxRecDepth 100000 in
set_option maxHeartbeats 4000000 in
theorem l_L_law_b689 {Ls : Nat} {xs : Nat → Int32} {hi : jw_H} {k23 : jw_H → Nat → Nat → Option Nat → Int32 → Option (Int32 × jw_H)} (hk23 : ∀ (h : jw_H) (x1 : Nat) (x2 : Nat) (x3 : Option Nat) (x4 : Int32) (r : Int32) (h' : jw_H), k23 h x1 x2 x3 x4 = some (r, h') → jw_E 21 (uL_law Ls xs) hi 23 [some (.retAddr 0), some (.ref x1), some (.ref x2), some (va_rf x3), some (.int x4), none, none] [] h (.inl (some (.int r))) h') {h : jw_H} {x1 : Nat} {x2 : Nat} {x3 : Option Nat} {x4 : Int32} {r : Int32} {h' : jw_H} (hq : g_L_law_b689 Ls xs k23 h x1 x2 x3 x4 = some (r, h')) : jw_E 21 (uL_law Ls xs) hi 689 [some (.retAddr 0), some (.ref x1), some (.ref x2), some (va_rf x3), some (.int x4), none, none] [] h (.inl (some (.int r))) h' := by
  unfold g_L_law_b689 at hq
  refine jw_goto (tgt := 1916) dL_law_689 (by decide) ?_
  exact l_L_law_b1916 hk23 hq

set_option maxRecDepth 100000 in
set_option maxHeartbeats 4000000 in
theorem l_L_law_b648 {Ls : Nat} {xs : Nat → Int32} {hi : jw_H} {k23 : jw_H → Nat → Nat → Option Nat → Int32 → Option (Int32 × jw_H)} (hk23 : ∀ (h : jw_H) (x1 : Nat) (x2 : Nat) (x3 : Option Nat) (x4 : Int32) (r : Int32) (h' : jw_H), k23 h x1 x2 x3 x4 = some (r, h') → jw_E 21 (uL_law Ls xs) hi 23 [some (.retAddr 0), some (.ref x1), some (.ref x2), some (va_rf x3), some (.int x4), none, none] [] h (.inl (some (.int r))) h') {h : jw_H} {x1 : Nat} {x2 : Nat} {x3 : Option Nat} {x4 : Int32} {r : Int32} {h' : jw_H} (hq : g_L_law_b648 Ls xs k23 h x1 x2 x3 x4 = some (r, h')) : jw_E 21 (uL_law Ls xs) hi 648 [some (.retAddr 0), some (.ref x1), some (.ref x2), some (va_rf x3), some (.int x4), none, none] [] h (.inl (some (.int r))) h' := by
  unfold g_L_law_b648 at hq
  refine jw_aload_n dL_law_648 (o := (some x1)) rfl ?_
  refine jw_aload_n dL_law_649 (o := x3) rfl ?_
  obtain ⟨w2, h1, ew2, hq⟩ := jw_b2_spec hq
  refine jw_callSW (As := [va_rf (some x1), va_rf x3]) (S := []) (v := some (.int w2)) dL_law_650 mw_L_undo st_L_undo lw_L_147 (c_L_undo ew2) rfl (by decide) (Nat.le_of_ble_eq_true rfl) rfl ?_
  refine jw_istore (L' := [some (.retAddr 0), some (.ref x1), some (.ref x2), some (va_rf x3), some (.int x4), some (.int w2), none]) dL_law_653 (Nat.le_of_ble_eq_true rfl) rfl ?_
  refine jw_aload_n dL_law_655 (o := (some x2)) rfl ?_
  obtain ⟨a3, ea3, hq⟩ := Option.bind_eq_some_iff.mp hq
  obtain ⟨eoa3, eta3⟩ := jw_rc_spec ea3
  obtain ⟨w5, h4, ew5, hq⟩ := jw_b2_spec hq
  refine jw_callV (As := []) (S := []) (a := a3) (v := some (.int w5)) dL_law_656 mt_X12_undo in_X12_undo se_X12_undo lk_L_149 (c_X12_undo ew5) eta3 (by decide) rfl rfl (by decide) (Nat.le_of_ble_eq_true rfl) (by cases eoa3; rfl) ?_
  refine jw_istore (L' := [some (.retAddr 0), some (.ref x1), some (.ref x2), some (va_rf x3), some (.int x4), some (.int w2), some (.int w5)]) dL_law_659 (Nat.le_of_ble_eq_true rfl) rfl ?_
  refine jw_aload_n dL_law_661 (o := (some x2)) rfl ?_
  obtain ⟨a6, ea6, hq⟩ := Option.bind_eq_some_iff.mp hq
  obtain ⟨eoa6, eta6⟩ := jw_rc_spec ea6
  obtain ⟨w8, h7, ew8, hq⟩ := jw_b2_spec hq
  refine jw_callV (As := []) (S := []) (a := a6) (v := some (.int w8)) dL_law_662 mt_X12_thrown in_X12_thrown se_X12_thrown lk_L_108 (c_X12_thrown ew8) eta6 (by decide) rfl rfl (by decide) (Nat.le_of_ble_eq_true rfl) (by cases eoa6; rfl) ?_
  refine jw_iload dL_law_665 rfl ?_
  rcases jw_if hq with ⟨c9, hq⟩ | ⟨c9, hq⟩
  · refine jw_icmp_eq_t (tgt := 672) dL_law_667 (by decide) c9 ?_
    refine jw_iload dL_law_672 rfl ?_
    rcases jw_if hq with ⟨c10, hq⟩ | ⟨c10, hq⟩
    · refine jw_if_ne_f (tgt := 689) dL_law_674 (by decide) c10 ?_
      refine jw_aload_n dL_law_677 (o := x3) rfl ?_
      refine jw_iconst dL_law_678 (v := (0 : Int32)) (by decide) ?_
      obtain ⟨v11, ev11, hq⟩ := Option.bind_eq_some_iff.mp hq
      refine jw_lald (o := x3) dL_law_679 ev11 ?_
      refine jw_iload dL_law_680 rfl ?_
      refine jw_i2l dL_law_682 ?_
      refine jw_lcmp dL_law_683 ?_
      rcases jw_if hq with ⟨c12, hq⟩ | ⟨c12, hq⟩
      · refine jw_if_eq_t (tgt := 689) dL_law_684 (by decide) c12 ?_
        refine jw_forget [true, true, true, true, true, false, false] (L' := [some (.retAddr 0), some (.ref x1), some (.ref x2), some (va_rf x3), some (.int x4), none, none]) rfl ?_
        exact l_L_law_b689 hk23 hq
      · refine jw_if_eq_f (tgt := 689) dL_law_684 (by decide) c12 ?_
        refine jw_iconst dL_law_687 (v := (0 : Int32)) (by decide) ?_
        cases hq
        exact jw_iret (ty := .boolean) dL_law_688 rfl rfl
    · refine jw_if_ne_t (tgt := 689) dL_law_674 (by decide) c10 ?_
      refine jw_forget [true, true, true, true, true, false, false] (L' := [some (.retAddr 0), some (.ref x1), some (.ref x2), some (va_rf x3), some (.int x4), none, none]) rfl ?_
      exact l_L_law_b689 hk23 hq
  · refine jw_icmp_eq_f (tgt := 672) dL_law_667 (by decide) c9 ?_
    refine jw_iconst dL_law_670 (v := (0 : Int32)) (by decide) ?_
    cases hq
    exact jw_iret (ty := .boolean) dL_law_671 rfl rfl

set_option maxRecDepth 100000 in
set_option maxHeartbeats 4000000 in
theorem l_L_law_b733 {Ls : Nat} {xs : Nat → Int32} {hi : jw_H} {k23 : jw_H → Nat → Nat → Option Nat → Int32 → Option (Int32 × jw_H)} (hk23 : ∀ (h : jw_H) (x1 : Nat) (x2 : Nat) (x3 : Option Nat) (x4 : Int32) (r : Int32) (h' : jw_H), k23 h x1 x2 x3 x4 = some (r, h') → jw_E 21 (uL_law Ls xs) hi 23 [some (.retAddr 0), some (.ref x1), some (.ref x2), some (va_rf x3), some (.int x4), none, none] [] h (.inl (some (.int r))) h') {h : jw_H} {x1 : Nat} {x2 : Nat} {x3 : Option Nat} {x4 : Int32} {r : Int32} {h' : jw_H} (hq : g_L_law_b733 Ls xs k23 h x1 x2 x3 x4 = some (r, h')) : jw_E 21 (uL_law Ls xs) hi 733 [some (.retAddr 0), some (.ref x1), some (.ref x2), some (va_rf x3), some (.int x4), none, none] [] h (.inl (some (.int r))) h' := by
  unfold g_L_law_b733 at hq
  refine jw_goto (tgt := 1916) dL_law_733 (by decide) ?_
  exact l_L_law_b1916 hk23 hq

set_option maxRecDepth 100000 in
set_option maxHeartbeats 4000000 in
theorem l_L_law_b692 {Ls : Nat} {xs : Nat → Int32} {hi : jw_H} {k23 : jw_H → Nat → Nat → Option Nat → Int32 → Option (Int32 × jw_H)} (hk23 : ∀ (h : jw_H) (x1 : Nat) (x2 : Nat) (x3 : Option Nat) (x4 : Int32) (r : Int32) (h' : jw_H), k23 h x1 x2 x3 x4 = some (r, h') → jw_E 21 (uL_law Ls xs) hi 23 [some (.retAddr 0), some (.ref x1), some (.ref x2), some (va_rf x3), some (.int x4), none, none] [] h (.inl (some (.int r))) h') {h : jw_H} {x1 : Nat} {x2 : Nat} {x3 : Option Nat} {x4 : Int32} {r : Int32} {h' : jw_H} (hq : g_L_law_b692 Ls xs k23 h x1 x2 x3 x4 = some (r, h')) : jw_E 21 (uL_law Ls xs) hi 692 [some (.retAddr 0), some (.ref x1), some (.ref x2), some (va_rf x3), some (.int x4), none, none] [] h (.inl (some (.int r))) h' := by
  unfold g_L_law_b692 at hq
  refine jw_aload_n dL_law_692 (o := (some x1)) rfl ?_
  refine jw_aload_n dL_law_693 (o := x3) rfl ?_
  obtain ⟨w2, h1, ew2, hq⟩ := jw_b2_spec hq
  refine jw_callSW (As := [va_rf (some x1), va_rf x3]) (S := []) (v := some (.int w2)) dL_law_694 mw_L_undoRun st_L_undoRun lw_L_150 (c_L_undoRun ew2) rfl (by decide) (Nat.le_of_ble_eq_true rfl) rfl ?_
  refine jw_istore (L' := [some (.retAddr 0), some (.ref x1), some (.ref x2), some (va_rf x3), some (.int x4), some (.int w2), none]) dL_law_697 (Nat.le_of_ble_eq_true rfl) rfl ?_
  refine jw_aload_n dL_law_699 (o := (some x2)) rfl ?_
  obtain ⟨a3, ea3, hq⟩ := Option.bind_eq_some_iff.mp hq
  obtain ⟨eoa3, eta3⟩ := jw_rc_spec ea3
  obtain ⟨w5, h4, ew5, hq⟩ := jw_b2_spec hq
  refine jw_callV (As := []) (S := []) (a := a3) (v := some (.int w5)) dL_law_700 mt_X12_undoRun in_X12_undoRun se_X12_undoRun lk_L_152 (c_X12_undoRun ew5) eta3 (by decide) rfl rfl (by decide) (Nat.le_of_ble_eq_true rfl) (by cases eoa3; rfl) ?_
  refine jw_istore (L' := [some (.retAddr 0), some (.ref x1), some (.ref x2), some (va_rf x3), some (.int x4), some (.int w2), some (.int w5)]) dL_law_703 (Nat.le_of_ble_eq_true rfl) rfl ?_
  refine jw_aload_n dL_law_705 (o := (some x2)) rfl ?_
  obtain ⟨a6, ea6, hq⟩ := Option.bind_eq_some_iff.mp hq
  obtain ⟨eoa6, eta6⟩ := jw_rc_spec ea6
  obtain ⟨w8, h7, ew8, hq⟩ := jw_b2_spec hq
  refine jw_callV (As := []) (S := []) (a := a6) (v := some (.int w8)) dL_law_706 mt_X12_thrown in_X12_thrown se_X12_thrown lk_L_108 (c_X12_thrown ew8) eta6 (by decide) rfl rfl (by decide) (Nat.le_of_ble_eq_true rfl) (by cases eoa6; rfl) ?_
  refine jw_iload dL_law_709 rfl ?_
  rcases jw_if hq with ⟨c9, hq⟩ | ⟨c9, hq⟩
  · refine jw_icmp_eq_t (tgt := 716) dL_law_711 (by decide) c9 ?_
    refine jw_iload dL_law_716 rfl ?_
    rcases jw_if hq with ⟨c10, hq⟩ | ⟨c10, hq⟩
    · refine jw_if_ne_f (tgt := 733) dL_law_718 (by decide) c10 ?_
      refine jw_aload_n dL_law_721 (o := x3) rfl ?_
      refine jw_iconst dL_law_722 (v := (0 : Int32)) (by decide) ?_
      obtain ⟨v11, ev11, hq⟩ := Option.bind_eq_some_iff.mp hq
      refine jw_lald (o := x3) dL_law_723 ev11 ?_
      refine jw_iload dL_law_724 rfl ?_
      refine jw_i2l dL_law_726 ?_
      refine jw_lcmp dL_law_727 ?_
      rcases jw_if hq with ⟨c12, hq⟩ | ⟨c12, hq⟩
      · refine jw_if_eq_t (tgt := 733) dL_law_728 (by decide) c12 ?_
        refine jw_forget [true, true, true, true, true, false, false] (L' := [some (.retAddr 0), some (.ref x1), some (.ref x2), some (va_rf x3), some (.int x4), none, none]) rfl ?_
        exact l_L_law_b733 hk23 hq
      · refine jw_if_eq_f (tgt := 733) dL_law_728 (by decide) c12 ?_
        refine jw_iconst dL_law_731 (v := (0 : Int32)) (by decide) ?_
        cases hq
        exact jw_iret (ty := .boolean) dL_law_732 rfl rfl
    · refine jw_if_ne_t (tgt := 733) dL_law_718 (by decide) c10 ?_
      refine jw_forget [true, true, true, true, true, false, false] (L' := [some (.retAddr 0), some (.ref x1), some (.ref x2), some (va_rf x3), some (.int x4), none, none]) rfl ?_
      exact l_L_law_b733 hk23 hq
  · refine jw_icmp_eq_f (tgt := 716) dL_law_711 (by decide) c9 ?_
    refine jw_iconst dL_law_714 (v := (0 : Int32)) (by decide) ?_
    cases hq
    exact jw_iret (ty := .boolean) dL_law_715 rfl rfl

set_option maxRecDepth 100000 in
set_option maxHeartbeats 4000000 in
theorem l_L_law_b736 {Ls : Nat} {xs : Nat → Int32} {hi : jw_H} {k23 : jw_H → Nat → Nat → Option Nat → Int32 → Option (Int32 × jw_H)} (hk23 : ∀ (h : jw_H) (x1 : Nat) (x2 : Nat) (x3 : Option Nat) (x4 : Int32) (r : Int32) (h' : jw_H), k23 h x1 x2 x3 x4 = some (r, h') → jw_E 21 (uL_law Ls xs) hi 23 [some (.retAddr 0), some (.ref x1), some (.ref x2), some (va_rf x3), some (.int x4), none, none] [] h (.inl (some (.int r))) h') {h : jw_H} {x1 : Nat} {x2 : Nat} {x3 : Option Nat} {x4 : Int32} {r : Int32} {h' : jw_H} (hq : g_L_law_b736 Ls xs k23 h x1 x2 x3 x4 = some (r, h')) : jw_E 21 (uL_law Ls xs) hi 736 [some (.retAddr 0), some (.ref x1), some (.ref x2), some (va_rf x3), some (.int x4), none, none] [] h (.inl (some (.int r))) h' := by
  unfold g_L_law_b736 at hq
  refine jw_aload_n dL_law_736 (o := (some x1)) rfl ?_
  obtain ⟨a1, ea1, hq⟩ := Option.bind_eq_some_iff.mp hq
  obtain ⟨eoa1, eta1⟩ := jw_rc_spec ea1
  obtain ⟨w3, h2, ew3, hq⟩ := jw_b2_spec hq
  refine jw_callV (As := []) (S := []) (a := a1) (v := some (.int w3)) dL_law_737 mt_X11_deeds in_X11_deeds se_X11_deeds lk_L_153 (c_X11_deeds ew3) eta1 (by decide) rfl rfl (by decide) (Nat.le_of_ble_eq_true rfl) (by cases eoa1; rfl) ?_
  refine jw_aload_n dL_law_740 (o := (some x2)) rfl ?_
  obtain ⟨a4, ea4, hq⟩ := Option.bind_eq_some_iff.mp hq
  obtain ⟨eoa4, eta4⟩ := jw_rc_spec ea4
  obtain ⟨w6, h5, ew6, hq⟩ := jw_b2_spec hq
  refine jw_callV (As := []) (S := [.int w3]) (a := a4) (v := some (.int w6)) dL_law_741 mt_X12_deeds in_X12_deeds se_X12_deeds lk_L_156 (c_X12_deeds ew6) eta4 (by decide) rfl rfl (by decide) (Nat.le_of_ble_eq_true rfl) (by cases eoa4; rfl) ?_
  rcases jw_if hq with ⟨c7, hq⟩ | ⟨c7, hq⟩
  · refine jw_icmp_eq_t (tgt := 1916) dL_law_744 (by decide) c7 ?_
    exact l_L_law_b1916 hk23 hq
  · refine jw_icmp_eq_f (tgt := 1916) dL_law_744 (by decide) c7 ?_
    refine jw_iconst dL_law_747 (v := (0 : Int32)) (by decide) ?_
    cases hq
    exact jw_iret (ty := .boolean) dL_law_748 rfl rfl

set_option maxRecDepth 100000 in
set_option maxHeartbeats 4000000 in
theorem l_L_law_b749 {Ls : Nat} {xs : Nat → Int32} {hi : jw_H} {k23 : jw_H → Nat → Nat → Option Nat → Int32 → Option (Int32 × jw_H)} (hk23 : ∀ (h : jw_H) (x1 : Nat) (x2 : Nat) (x3 : Option Nat) (x4 : Int32) (r : Int32) (h' : jw_H), k23 h x1 x2 x3 x4 = some (r, h') → jw_E 21 (uL_law Ls xs) hi 23 [some (.retAddr 0), some (.ref x1), some (.ref x2), some (va_rf x3), some (.int x4), none, none] [] h (.inl (some (.int r))) h') {h : jw_H} {x1 : Nat} {x2 : Nat} {x3 : Option Nat} {x4 : Int32} {r : Int32} {h' : jw_H} (hq : g_L_law_b749 Ls xs k23 h x1 x2 x3 x4 = some (r, h')) : jw_E 21 (uL_law Ls xs) hi 749 [some (.retAddr 0), some (.ref x1), some (.ref x2), some (va_rf x3), some (.int x4), none, none] [] h (.inl (some (.int r))) h' := by
  unfold g_L_law_b749 at hq
  refine jw_aload_n dL_law_749 (o := (some x1)) rfl ?_
  obtain ⟨a1, ea1, hq⟩ := Option.bind_eq_some_iff.mp hq
  obtain ⟨eoa1, eta1⟩ := jw_rc_spec ea1
  obtain ⟨w3, h2, ew3, hq⟩ := jw_b2_spec hq
  refine jw_callV (As := []) (S := []) (a := a1) (v := some (.int w3)) dL_law_750 mt_X11_lines in_X11_lines se_X11_lines lk_L_157 (c_X11_lines ew3) eta1 (by decide) rfl rfl (by decide) (Nat.le_of_ble_eq_true rfl) (by cases eoa1; rfl) ?_
  refine jw_aload_n dL_law_753 (o := (some x2)) rfl ?_
  obtain ⟨a4, ea4, hq⟩ := Option.bind_eq_some_iff.mp hq
  obtain ⟨eoa4, eta4⟩ := jw_rc_spec ea4
  obtain ⟨w6, h5, ew6, hq⟩ := jw_b2_spec hq
  refine jw_callV (As := []) (S := [.int w3]) (a := a4) (v := some (.int w6)) dL_law_754 mt_X12_lines in_X12_lines se_X12_lines lk_L_160 (c_X12_lines ew6) eta4 (by decide) rfl rfl (by decide) (Nat.le_of_ble_eq_true rfl) (by cases eoa4; rfl) ?_
  rcases jw_if hq with ⟨c7, hq⟩ | ⟨c7, hq⟩
  · refine jw_icmp_eq_t (tgt := 1916) dL_law_757 (by decide) c7 ?_
    exact l_L_law_b1916 hk23 hq
  · refine jw_icmp_eq_f (tgt := 1916) dL_law_757 (by decide) c7 ?_
    refine jw_iconst dL_law_760 (v := (0 : Int32)) (by decide) ?_
    cases hq
    exact jw_iret (ty := .boolean) dL_law_761 rfl rfl

set_option maxRecDepth 100000 in
set_option maxHeartbeats 4000000 in
theorem l_L_law_b815 {Ls : Nat} {xs : Nat → Int32} {hi : jw_H} {k23 : jw_H → Nat → Nat → Option Nat → Int32 → Option (Int32 × jw_H)} (hk23 : ∀ (h : jw_H) (x1 : Nat) (x2 : Nat) (x3 : Option Nat) (x4 : Int32) (r : Int32) (h' : jw_H), k23 h x1 x2 x3 x4 = some (r, h') → jw_E 21 (uL_law Ls xs) hi 23 [some (.retAddr 0), some (.ref x1), some (.ref x2), some (va_rf x3), some (.int x4), none, none] [] h (.inl (some (.int r))) h') {h : jw_H} {x1 : Nat} {x2 : Nat} {x3 : Option Nat} {x4 : Int32} {r : Int32} {h' : jw_H} (hq : g_L_law_b815 Ls xs k23 h x1 x2 x3 x4 = some (r, h')) : jw_E 21 (uL_law Ls xs) hi 815 [some (.retAddr 0), some (.ref x1), some (.ref x2), some (va_rf x3), some (.int x4), none, none] [] h (.inl (some (.int r))) h' := by
  unfold g_L_law_b815 at hq
  refine jw_goto (tgt := 1916) dL_law_815 (by decide) ?_
  exact l_L_law_b1916 hk23 hq

set_option maxRecDepth 100000 in
set_option maxHeartbeats 4000000 in
theorem l_L_law_b762 {Ls : Nat} {xs : Nat → Int32} {hi : jw_H} {k23 : jw_H → Nat → Nat → Option Nat → Int32 → Option (Int32 × jw_H)} (hk23 : ∀ (h : jw_H) (x1 : Nat) (x2 : Nat) (x3 : Option Nat) (x4 : Int32) (r : Int32) (h' : jw_H), k23 h x1 x2 x3 x4 = some (r, h') → jw_E 21 (uL_law Ls xs) hi 23 [some (.retAddr 0), some (.ref x1), some (.ref x2), some (va_rf x3), some (.int x4), none, none] [] h (.inl (some (.int r))) h') {h : jw_H} {x1 : Nat} {x2 : Nat} {x3 : Option Nat} {x4 : Int32} {r : Int32} {h' : jw_H} (hq : g_L_law_b762 Ls xs k23 h x1 x2 x3 x4 = some (r, h')) : jw_E 21 (uL_law Ls xs) hi 762 [some (.retAddr 0), some (.ref x1), some (.ref x2), some (va_rf x3), some (.int x4), none, none] [] h (.inl (some (.int r))) h' := by
  unfold g_L_law_b762 at hq
  refine jw_aload_n dL_law_762 (o := (some x1)) rfl ?_
  refine jw_aload_nS dL_law_763 rfl ?_
  refine jw_iload dL_law_764 rfl ?_
  refine jw_iconst dL_law_766 (v := (1 : Int32)) (by decide) ?_
  refine jw_iadd dL_law_767 ?_
  obtain ⟨v1, ev1, hq⟩ := Option.bind_eq_some_iff.mp hq
  refine jw_sld (xs0 := xs) rfl dL_law_768 ev1 ?_
  refine jw_aload_n dL_law_769 (o := x3) rfl ?_
  obtain ⟨w3, h2, ew3, hq⟩ := jw_b2_spec hq
  refine jw_callSW (As := [va_rf (some x1), .int v1, va_rf x3]) (S := []) (v := some (.int w3)) dL_law_770 mw_L_length st_L_length lw_L_161 (c_L_length ew3) rfl (by decide) (Nat.le_of_ble_eq_true rfl) rfl ?_
  refine jw_istore (L' := [some (.retAddr 0), some (.ref x1), some (.ref x2), some (va_rf x3), some (.int x4), some (.int w3), none]) dL_law_773 (Nat.le_of_ble_eq_true rfl) rfl ?_
  refine jw_aload_n dL_law_775 (o := (some x2)) rfl ?_
  refine jw_aload_nS dL_law_776 rfl ?_
  refine jw_iload dL_law_777 rfl ?_
  refine jw_iconst dL_law_779 (v := (1 : Int32)) (by decide) ?_
  refine jw_iadd dL_law_780 ?_
  obtain ⟨v4, ev4, hq⟩ := Option.bind_eq_some_iff.mp hq
  refine jw_sld (xs0 := xs) rfl dL_law_781 ev4 ?_
  obtain ⟨a5, ea5, hq⟩ := Option.bind_eq_some_iff.mp hq
  obtain ⟨eoa5, eta5⟩ := jw_rc_spec ea5
  obtain ⟨w7, h6, ew7, hq⟩ := jw_b2_spec hq
  refine jw_callV (As := [.int v4]) (S := []) (a := a5) (v := some (.int w7)) dL_law_782 mt_X12_length in_X12_length se_X12_length lk_L_163 (c_X12_length ew7) eta5 (by decide) rfl rfl (by decide) (Nat.le_of_ble_eq_true rfl) (by cases eoa5; rfl) ?_
  refine jw_istore (L' := [some (.retAddr 0), some (.ref x1), some (.ref x2), some (va_rf x3), some (.int x4), some (.int w3), some (.int w7)]) dL_law_785 (Nat.le_of_ble_eq_true rfl) rfl ?_
  refine jw_aload_n dL_law_787 (o := (some x2)) rfl ?_
  obtain ⟨a8, ea8, hq⟩ := Option.bind_eq_some_iff.mp hq
  obtain ⟨eoa8, eta8⟩ := jw_rc_spec ea8
  obtain ⟨w10, h9, ew10, hq⟩ := jw_b2_spec hq
  refine jw_callV (As := []) (S := []) (a := a8) (v := some (.int w10)) dL_law_788 mt_X12_thrown in_X12_thrown se_X12_thrown lk_L_108 (c_X12_thrown ew10) eta8 (by decide) rfl rfl (by decide) (Nat.le_of_ble_eq_true rfl) (by cases eoa8; rfl) ?_
  refine jw_iload dL_law_791 rfl ?_
  rcases jw_if hq with ⟨c11, hq⟩ | ⟨c11, hq⟩
  · refine jw_icmp_eq_t (tgt := 798) dL_law_793 (by decide) c11 ?_
    refine jw_iload dL_law_798 rfl ?_
    rcases jw_if hq with ⟨c12, hq⟩ | ⟨c12, hq⟩
    · refine jw_if_ne_f (tgt := 815) dL_law_800 (by decide) c12 ?_
      refine jw_aload_n dL_law_803 (o := x3) rfl ?_
      refine jw_iconst dL_law_804 (v := (0 : Int32)) (by decide) ?_
      obtain ⟨v13, ev13, hq⟩ := Option.bind_eq_some_iff.mp hq
      refine jw_lald (o := x3) dL_law_805 ev13 ?_
      refine jw_iload dL_law_806 rfl ?_
      refine jw_i2l dL_law_808 ?_
      refine jw_lcmp dL_law_809 ?_
      rcases jw_if hq with ⟨c14, hq⟩ | ⟨c14, hq⟩
      · refine jw_if_eq_t (tgt := 815) dL_law_810 (by decide) c14 ?_
        refine jw_forget [true, true, true, true, true, false, false] (L' := [some (.retAddr 0), some (.ref x1), some (.ref x2), some (va_rf x3), some (.int x4), none, none]) rfl ?_
        exact l_L_law_b815 hk23 hq
      · refine jw_if_eq_f (tgt := 815) dL_law_810 (by decide) c14 ?_
        refine jw_iconst dL_law_813 (v := (0 : Int32)) (by decide) ?_
        cases hq
        exact jw_iret (ty := .boolean) dL_law_814 rfl rfl
    · refine jw_if_ne_t (tgt := 815) dL_law_800 (by decide) c12 ?_
      refine jw_forget [true, true, true, true, true, false, false] (L' := [some (.retAddr 0), some (.ref x1), some (.ref x2), some (va_rf x3), some (.int x4), none, none]) rfl ?_
      exact l_L_law_b815 hk23 hq
  · refine jw_icmp_eq_f (tgt := 798) dL_law_793 (by decide) c11 ?_
    refine jw_iconst dL_law_796 (v := (0 : Int32)) (by decide) ?_
    cases hq
    exact jw_iret (ty := .boolean) dL_law_797 rfl rfl

set_option maxRecDepth 100000 in
set_option maxHeartbeats 4000000 in
theorem l_L_law_b883 {Ls : Nat} {xs : Nat → Int32} {hi : jw_H} {k23 : jw_H → Nat → Nat → Option Nat → Int32 → Option (Int32 × jw_H)} (hk23 : ∀ (h : jw_H) (x1 : Nat) (x2 : Nat) (x3 : Option Nat) (x4 : Int32) (r : Int32) (h' : jw_H), k23 h x1 x2 x3 x4 = some (r, h') → jw_E 21 (uL_law Ls xs) hi 23 [some (.retAddr 0), some (.ref x1), some (.ref x2), some (va_rf x3), some (.int x4), none, none] [] h (.inl (some (.int r))) h') {h : jw_H} {x1 : Nat} {x2 : Nat} {x3 : Option Nat} {x4 : Int32} {r : Int32} {h' : jw_H} (hq : g_L_law_b883 Ls xs k23 h x1 x2 x3 x4 = some (r, h')) : jw_E 21 (uL_law Ls xs) hi 883 [some (.retAddr 0), some (.ref x1), some (.ref x2), some (va_rf x3), some (.int x4), none, none] [] h (.inl (some (.int r))) h' := by
  unfold g_L_law_b883 at hq
  refine jw_goto (tgt := 1916) dL_law_883 (by decide) ?_
  exact l_L_law_b1916 hk23 hq

set_option maxRecDepth 100000 in
set_option maxHeartbeats 4000000 in
theorem l_L_law_b818 {Ls : Nat} {xs : Nat → Int32} {hi : jw_H} {k23 : jw_H → Nat → Nat → Option Nat → Int32 → Option (Int32 × jw_H)} (hk23 : ∀ (h : jw_H) (x1 : Nat) (x2 : Nat) (x3 : Option Nat) (x4 : Int32) (r : Int32) (h' : jw_H), k23 h x1 x2 x3 x4 = some (r, h') → jw_E 21 (uL_law Ls xs) hi 23 [some (.retAddr 0), some (.ref x1), some (.ref x2), some (va_rf x3), some (.int x4), none, none] [] h (.inl (some (.int r))) h') {h : jw_H} {x1 : Nat} {x2 : Nat} {x3 : Option Nat} {x4 : Int32} {r : Int32} {h' : jw_H} (hq : g_L_law_b818 Ls xs k23 h x1 x2 x3 x4 = some (r, h')) : jw_E 21 (uL_law Ls xs) hi 818 [some (.retAddr 0), some (.ref x1), some (.ref x2), some (va_rf x3), some (.int x4), none, none] [] h (.inl (some (.int r))) h' := by
  unfold g_L_law_b818 at hq
  refine jw_aload_n dL_law_818 (o := (some x1)) rfl ?_
  refine jw_aload_nS dL_law_819 rfl ?_
  refine jw_iload dL_law_820 rfl ?_
  refine jw_iconst dL_law_822 (v := (1 : Int32)) (by decide) ?_
  refine jw_iadd dL_law_823 ?_
  obtain ⟨v1, ev1, hq⟩ := Option.bind_eq_some_iff.mp hq
  refine jw_sld (xs0 := xs) rfl dL_law_824 ev1 ?_
  refine jw_aload_nS dL_law_825 rfl ?_
  refine jw_iload dL_law_826 rfl ?_
  refine jw_iconst dL_law_828 (v := (2 : Int32)) (by decide) ?_
  refine jw_iadd dL_law_829 ?_
  obtain ⟨v2, ev2, hq⟩ := Option.bind_eq_some_iff.mp hq
  refine jw_sld (xs0 := xs) rfl dL_law_830 ev2 ?_
  refine jw_aload_n dL_law_831 (o := x3) rfl ?_
  obtain ⟨w4, h3, ew4, hq⟩ := jw_b2_spec hq
  refine jw_callSW (As := [va_rf (some x1), .int v1, .int v2, va_rf x3]) (S := []) (v := some (.int w4)) dL_law_832 mw_L_at st_L_at lw_L_164 (c_L_at ew4) rfl (by decide) (Nat.le_of_ble_eq_true rfl) rfl ?_
  refine jw_istore (L' := [some (.retAddr 0), some (.ref x1), some (.ref x2), some (va_rf x3), some (.int x4), some (.int w4), none]) dL_law_835 (Nat.le_of_ble_eq_true rfl) rfl ?_
  refine jw_aload_n dL_law_837 (o := (some x2)) rfl ?_
  refine jw_aload_nS dL_law_838 rfl ?_
  refine jw_iload dL_law_839 rfl ?_
  refine jw_iconst dL_law_841 (v := (1 : Int32)) (by decide) ?_
  refine jw_iadd dL_law_842 ?_
  obtain ⟨v5, ev5, hq⟩ := Option.bind_eq_some_iff.mp hq
  refine jw_sld (xs0 := xs) rfl dL_law_843 ev5 ?_
  refine jw_aload_nS dL_law_844 rfl ?_
  refine jw_iload dL_law_845 rfl ?_
  refine jw_iconst dL_law_847 (v := (2 : Int32)) (by decide) ?_
  refine jw_iadd dL_law_848 ?_
  obtain ⟨v6, ev6, hq⟩ := Option.bind_eq_some_iff.mp hq
  refine jw_sld (xs0 := xs) rfl dL_law_849 ev6 ?_
  obtain ⟨a7, ea7, hq⟩ := Option.bind_eq_some_iff.mp hq
  obtain ⟨eoa7, eta7⟩ := jw_rc_spec ea7
  obtain ⟨w9, h8, ew9, hq⟩ := jw_b2_spec hq
  refine jw_callV (As := [.int v5, .int v6]) (S := []) (a := a7) (v := some (.int w9)) dL_law_850 mt_X12_at in_X12_at se_X12_at lk_L_166 (c_X12_at ew9) eta7 (by decide) rfl rfl (by decide) (Nat.le_of_ble_eq_true rfl) (by cases eoa7; rfl) ?_
  refine jw_istore (L' := [some (.retAddr 0), some (.ref x1), some (.ref x2), some (va_rf x3), some (.int x4), some (.int w4), some (.int w9)]) dL_law_853 (Nat.le_of_ble_eq_true rfl) rfl ?_
  refine jw_aload_n dL_law_855 (o := (some x2)) rfl ?_
  obtain ⟨a10, ea10, hq⟩ := Option.bind_eq_some_iff.mp hq
  obtain ⟨eoa10, eta10⟩ := jw_rc_spec ea10
  obtain ⟨w12, h11, ew12, hq⟩ := jw_b2_spec hq
  refine jw_callV (As := []) (S := []) (a := a10) (v := some (.int w12)) dL_law_856 mt_X12_thrown in_X12_thrown se_X12_thrown lk_L_108 (c_X12_thrown ew12) eta10 (by decide) rfl rfl (by decide) (Nat.le_of_ble_eq_true rfl) (by cases eoa10; rfl) ?_
  refine jw_iload dL_law_859 rfl ?_
  rcases jw_if hq with ⟨c13, hq⟩ | ⟨c13, hq⟩
  · refine jw_icmp_eq_t (tgt := 866) dL_law_861 (by decide) c13 ?_
    refine jw_iload dL_law_866 rfl ?_
    rcases jw_if hq with ⟨c14, hq⟩ | ⟨c14, hq⟩
    · refine jw_if_ne_f (tgt := 883) dL_law_868 (by decide) c14 ?_
      refine jw_aload_n dL_law_871 (o := x3) rfl ?_
      refine jw_iconst dL_law_872 (v := (0 : Int32)) (by decide) ?_
      obtain ⟨v15, ev15, hq⟩ := Option.bind_eq_some_iff.mp hq
      refine jw_lald (o := x3) dL_law_873 ev15 ?_
      refine jw_iload dL_law_874 rfl ?_
      refine jw_i2l dL_law_876 ?_
      refine jw_lcmp dL_law_877 ?_
      rcases jw_if hq with ⟨c16, hq⟩ | ⟨c16, hq⟩
      · refine jw_if_eq_t (tgt := 883) dL_law_878 (by decide) c16 ?_
        refine jw_forget [true, true, true, true, true, false, false] (L' := [some (.retAddr 0), some (.ref x1), some (.ref x2), some (va_rf x3), some (.int x4), none, none]) rfl ?_
        exact l_L_law_b883 hk23 hq
      · refine jw_if_eq_f (tgt := 883) dL_law_878 (by decide) c16 ?_
        refine jw_iconst dL_law_881 (v := (0 : Int32)) (by decide) ?_
        cases hq
        exact jw_iret (ty := .boolean) dL_law_882 rfl rfl
    · refine jw_if_ne_t (tgt := 883) dL_law_868 (by decide) c14 ?_
      refine jw_forget [true, true, true, true, true, false, false] (L' := [some (.retAddr 0), some (.ref x1), some (.ref x2), some (va_rf x3), some (.int x4), none, none]) rfl ?_
      exact l_L_law_b883 hk23 hq
  · refine jw_icmp_eq_f (tgt := 866) dL_law_861 (by decide) c13 ?_
    refine jw_iconst dL_law_864 (v := (0 : Int32)) (by decide) ?_
    cases hq
    exact jw_iret (ty := .boolean) dL_law_865 rfl rfl

set_option maxRecDepth 100000 in
set_option maxHeartbeats 4000000 in
theorem l_L_law_b939 {Ls : Nat} {xs : Nat → Int32} {hi : jw_H} {k23 : jw_H → Nat → Nat → Option Nat → Int32 → Option (Int32 × jw_H)} (hk23 : ∀ (h : jw_H) (x1 : Nat) (x2 : Nat) (x3 : Option Nat) (x4 : Int32) (r : Int32) (h' : jw_H), k23 h x1 x2 x3 x4 = some (r, h') → jw_E 21 (uL_law Ls xs) hi 23 [some (.retAddr 0), some (.ref x1), some (.ref x2), some (va_rf x3), some (.int x4), none, none] [] h (.inl (some (.int r))) h') {h : jw_H} {x1 : Nat} {x2 : Nat} {x3 : Option Nat} {x4 : Int32} {r : Int32} {h' : jw_H} (hq : g_L_law_b939 Ls xs k23 h x1 x2 x3 x4 = some (r, h')) : jw_E 21 (uL_law Ls xs) hi 939 [some (.retAddr 0), some (.ref x1), some (.ref x2), some (va_rf x3), some (.int x4), none, none] [] h (.inl (some (.int r))) h' := by
  unfold g_L_law_b939 at hq
  refine jw_goto (tgt := 1916) dL_law_939 (by decide) ?_
  exact l_L_law_b1916 hk23 hq

set_option maxRecDepth 100000 in
set_option maxHeartbeats 4000000 in
theorem l_L_law_b886 {Ls : Nat} {xs : Nat → Int32} {hi : jw_H} {k23 : jw_H → Nat → Nat → Option Nat → Int32 → Option (Int32 × jw_H)} (hk23 : ∀ (h : jw_H) (x1 : Nat) (x2 : Nat) (x3 : Option Nat) (x4 : Int32) (r : Int32) (h' : jw_H), k23 h x1 x2 x3 x4 = some (r, h') → jw_E 21 (uL_law Ls xs) hi 23 [some (.retAddr 0), some (.ref x1), some (.ref x2), some (va_rf x3), some (.int x4), none, none] [] h (.inl (some (.int r))) h') {h : jw_H} {x1 : Nat} {x2 : Nat} {x3 : Option Nat} {x4 : Int32} {r : Int32} {h' : jw_H} (hq : g_L_law_b886 Ls xs k23 h x1 x2 x3 x4 = some (r, h')) : jw_E 21 (uL_law Ls xs) hi 886 [some (.retAddr 0), some (.ref x1), some (.ref x2), some (va_rf x3), some (.int x4), none, none] [] h (.inl (some (.int r))) h' := by
  unfold g_L_law_b886 at hq
  refine jw_aload_n dL_law_886 (o := (some x1)) rfl ?_
  refine jw_aload_nS dL_law_887 rfl ?_
  refine jw_iload dL_law_888 rfl ?_
  refine jw_iconst dL_law_890 (v := (1 : Int32)) (by decide) ?_
  refine jw_iadd dL_law_891 ?_
  obtain ⟨v1, ev1, hq⟩ := Option.bind_eq_some_iff.mp hq
  refine jw_sld (xs0 := xs) rfl dL_law_892 ev1 ?_
  refine jw_aload_n dL_law_893 (o := x3) rfl ?_
  obtain ⟨w3, h2, ew3, hq⟩ := jw_b2_spec hq
  refine jw_callSW (As := [va_rf (some x1), .int v1, va_rf x3]) (S := []) (v := some (.int w3)) dL_law_894 mw_L_id st_L_id lw_L_167 (c_L_id ew3) rfl (by decide) (Nat.le_of_ble_eq_true rfl) rfl ?_
  refine jw_istore (L' := [some (.retAddr 0), some (.ref x1), some (.ref x2), some (va_rf x3), some (.int x4), some (.int w3), none]) dL_law_897 (Nat.le_of_ble_eq_true rfl) rfl ?_
  refine jw_aload_n dL_law_899 (o := (some x2)) rfl ?_
  refine jw_aload_nS dL_law_900 rfl ?_
  refine jw_iload dL_law_901 rfl ?_
  refine jw_iconst dL_law_903 (v := (1 : Int32)) (by decide) ?_
  refine jw_iadd dL_law_904 ?_
  obtain ⟨v4, ev4, hq⟩ := Option.bind_eq_some_iff.mp hq
  refine jw_sld (xs0 := xs) rfl dL_law_905 ev4 ?_
  obtain ⟨a5, ea5, hq⟩ := Option.bind_eq_some_iff.mp hq
  obtain ⟨eoa5, eta5⟩ := jw_rc_spec ea5
  obtain ⟨w7, h6, ew7, hq⟩ := jw_b2_spec hq
  refine jw_callV (As := [.int v4]) (S := []) (a := a5) (v := some (.int w7)) dL_law_906 mt_X12_id in_X12_id se_X12_id lk_L_169 (c_X12_id ew7) eta5 (by decide) rfl rfl (by decide) (Nat.le_of_ble_eq_true rfl) (by cases eoa5; rfl) ?_
  refine jw_istore (L' := [some (.retAddr 0), some (.ref x1), some (.ref x2), some (va_rf x3), some (.int x4), some (.int w3), some (.int w7)]) dL_law_909 (Nat.le_of_ble_eq_true rfl) rfl ?_
  refine jw_aload_n dL_law_911 (o := (some x2)) rfl ?_
  obtain ⟨a8, ea8, hq⟩ := Option.bind_eq_some_iff.mp hq
  obtain ⟨eoa8, eta8⟩ := jw_rc_spec ea8
  obtain ⟨w10, h9, ew10, hq⟩ := jw_b2_spec hq
  refine jw_callV (As := []) (S := []) (a := a8) (v := some (.int w10)) dL_law_912 mt_X12_thrown in_X12_thrown se_X12_thrown lk_L_108 (c_X12_thrown ew10) eta8 (by decide) rfl rfl (by decide) (Nat.le_of_ble_eq_true rfl) (by cases eoa8; rfl) ?_
  refine jw_iload dL_law_915 rfl ?_
  rcases jw_if hq with ⟨c11, hq⟩ | ⟨c11, hq⟩
  · refine jw_icmp_eq_t (tgt := 922) dL_law_917 (by decide) c11 ?_
    refine jw_iload dL_law_922 rfl ?_
    rcases jw_if hq with ⟨c12, hq⟩ | ⟨c12, hq⟩
    · refine jw_if_ne_f (tgt := 939) dL_law_924 (by decide) c12 ?_
      refine jw_aload_n dL_law_927 (o := x3) rfl ?_
      refine jw_iconst dL_law_928 (v := (0 : Int32)) (by decide) ?_
      obtain ⟨v13, ev13, hq⟩ := Option.bind_eq_some_iff.mp hq
      refine jw_lald (o := x3) dL_law_929 ev13 ?_
      refine jw_iload dL_law_930 rfl ?_
      refine jw_i2l dL_law_932 ?_
      refine jw_lcmp dL_law_933 ?_
      rcases jw_if hq with ⟨c14, hq⟩ | ⟨c14, hq⟩
      · refine jw_if_eq_t (tgt := 939) dL_law_934 (by decide) c14 ?_
        refine jw_forget [true, true, true, true, true, false, false] (L' := [some (.retAddr 0), some (.ref x1), some (.ref x2), some (va_rf x3), some (.int x4), none, none]) rfl ?_
        exact l_L_law_b939 hk23 hq
      · refine jw_if_eq_f (tgt := 939) dL_law_934 (by decide) c14 ?_
        refine jw_iconst dL_law_937 (v := (0 : Int32)) (by decide) ?_
        cases hq
        exact jw_iret (ty := .boolean) dL_law_938 rfl rfl
    · refine jw_if_ne_t (tgt := 939) dL_law_924 (by decide) c12 ?_
      refine jw_forget [true, true, true, true, true, false, false] (L' := [some (.retAddr 0), some (.ref x1), some (.ref x2), some (va_rf x3), some (.int x4), none, none]) rfl ?_
      exact l_L_law_b939 hk23 hq
  · refine jw_icmp_eq_f (tgt := 922) dL_law_917 (by decide) c11 ?_
    refine jw_iconst dL_law_920 (v := (0 : Int32)) (by decide) ?_
    cases hq
    exact jw_iret (ty := .boolean) dL_law_921 rfl rfl

set_option maxRecDepth 100000 in
set_option maxHeartbeats 4000000 in
theorem l_L_law_b942 {Ls : Nat} {xs : Nat → Int32} {hi : jw_H} {k23 : jw_H → Nat → Nat → Option Nat → Int32 → Option (Int32 × jw_H)} (hk23 : ∀ (h : jw_H) (x1 : Nat) (x2 : Nat) (x3 : Option Nat) (x4 : Int32) (r : Int32) (h' : jw_H), k23 h x1 x2 x3 x4 = some (r, h') → jw_E 21 (uL_law Ls xs) hi 23 [some (.retAddr 0), some (.ref x1), some (.ref x2), some (va_rf x3), some (.int x4), none, none] [] h (.inl (some (.int r))) h') {h : jw_H} {x1 : Nat} {x2 : Nat} {x3 : Option Nat} {x4 : Int32} {r : Int32} {h' : jw_H} (hq : g_L_law_b942 Ls xs k23 h x1 x2 x3 x4 = some (r, h')) : jw_E 21 (uL_law Ls xs) hi 942 [some (.retAddr 0), some (.ref x1), some (.ref x2), some (va_rf x3), some (.int x4), none, none] [] h (.inl (some (.int r))) h' := by
  unfold g_L_law_b942 at hq
  refine jw_aload_n dL_law_942 (o := (some x1)) rfl ?_
  refine jw_aload_nS dL_law_943 rfl ?_
  refine jw_iload dL_law_944 rfl ?_
  refine jw_iconst dL_law_946 (v := (1 : Int32)) (by decide) ?_
  refine jw_iadd dL_law_947 ?_
  obtain ⟨v1, ev1, hq⟩ := Option.bind_eq_some_iff.mp hq
  refine jw_sld (xs0 := xs) rfl dL_law_948 ev1 ?_
  obtain ⟨a2, ea2, hq⟩ := Option.bind_eq_some_iff.mp hq
  obtain ⟨eoa2, eta2⟩ := jw_rc_spec ea2
  obtain ⟨w4, h3, ew4, hq⟩ := jw_b2_spec hq
  refine jw_callV (As := [.int v1]) (S := []) (a := a2) (v := some (.int w4)) dL_law_949 mt_X11_lineOf in_X11_lineOf se_X11_lineOf lk_L_170 (c_X11_lineOf ew4) eta2 (by decide) rfl rfl (by decide) (Nat.le_of_ble_eq_true rfl) (by cases eoa2; rfl) ?_
  refine jw_aload_n dL_law_952 (o := (some x2)) rfl ?_
  refine jw_aload_nS dL_law_953 rfl ?_
  refine jw_iload dL_law_954 rfl ?_
  refine jw_iconst dL_law_956 (v := (1 : Int32)) (by decide) ?_
  refine jw_iadd dL_law_957 ?_
  obtain ⟨v5, ev5, hq⟩ := Option.bind_eq_some_iff.mp hq
  refine jw_sld (xs0 := xs) rfl dL_law_958 ev5 ?_
  obtain ⟨a6, ea6, hq⟩ := Option.bind_eq_some_iff.mp hq
  obtain ⟨eoa6, eta6⟩ := jw_rc_spec ea6
  obtain ⟨w8, h7, ew8, hq⟩ := jw_b2_spec hq
  refine jw_callV (As := [.int v5]) (S := [.int w4]) (a := a6) (v := some (.int w8)) dL_law_959 mt_X12_lineOf in_X12_lineOf se_X12_lineOf lk_L_173 (c_X12_lineOf ew8) eta6 (by decide) rfl rfl (by decide) (Nat.le_of_ble_eq_true rfl) (by cases eoa6; rfl) ?_
  rcases jw_if hq with ⟨c9, hq⟩ | ⟨c9, hq⟩
  · refine jw_icmp_eq_t (tgt := 1916) dL_law_962 (by decide) c9 ?_
    exact l_L_law_b1916 hk23 hq
  · refine jw_icmp_eq_f (tgt := 1916) dL_law_962 (by decide) c9 ?_
    refine jw_iconst dL_law_965 (v := (0 : Int32)) (by decide) ?_
    cases hq
    exact jw_iret (ty := .boolean) dL_law_966 rfl rfl

set_option maxRecDepth 100000 in
set_option maxHeartbeats 4000000 in
theorem l_L_law_b967 {Ls : Nat} {xs : Nat → Int32} {hi : jw_H} {k23 : jw_H → Nat → Nat → Option Nat → Int32 → Option (Int32 × jw_H)} (hk23 : ∀ (h : jw_H) (x1 : Nat) (x2 : Nat) (x3 : Option Nat) (x4 : Int32) (r : Int32) (h' : jw_H), k23 h x1 x2 x3 x4 = some (r, h') → jw_E 21 (uL_law Ls xs) hi 23 [some (.retAddr 0), some (.ref x1), some (.ref x2), some (va_rf x3), some (.int x4), none, none] [] h (.inl (some (.int r))) h') {h : jw_H} {x1 : Nat} {x2 : Nat} {x3 : Option Nat} {x4 : Int32} {r : Int32} {h' : jw_H} (hq : g_L_law_b967 Ls xs k23 h x1 x2 x3 x4 = some (r, h')) : jw_E 21 (uL_law Ls xs) hi 967 [some (.retAddr 0), some (.ref x1), some (.ref x2), some (va_rf x3), some (.int x4), none, none] [] h (.inl (some (.int r))) h' := by
  unfold g_L_law_b967 at hq
  refine jw_aload_n dL_law_967 (o := (some x1)) rfl ?_
  obtain ⟨a1, ea1, hq⟩ := Option.bind_eq_some_iff.mp hq
  obtain ⟨eoa1, eta1⟩ := jw_rc_spec ea1
  obtain ⟨w3, h2, ew3, hq⟩ := jw_b2_spec hq
  refine jw_callV (As := []) (S := []) (a := a1) (v := some (.int w3)) dL_law_968 mt_X11_present in_X11_present se_X11_present lk_L_174 (c_X11_present ew3) eta1 (by decide) rfl rfl (by decide) (Nat.le_of_ble_eq_true rfl) (by cases eoa1; rfl) ?_
  refine jw_aload_n dL_law_971 (o := (some x2)) rfl ?_
  obtain ⟨a4, ea4, hq⟩ := Option.bind_eq_some_iff.mp hq
  obtain ⟨eoa4, eta4⟩ := jw_rc_spec ea4
  obtain ⟨w6, h5, ew6, hq⟩ := jw_b2_spec hq
  refine jw_callV (As := []) (S := [.int w3]) (a := a4) (v := some (.int w6)) dL_law_972 mt_X12_present in_X12_present se_X12_present lk_L_177 (c_X12_present ew6) eta4 (by decide) rfl rfl (by decide) (Nat.le_of_ble_eq_true rfl) (by cases eoa4; rfl) ?_
  rcases jw_if hq with ⟨c7, hq⟩ | ⟨c7, hq⟩
  · refine jw_icmp_eq_t (tgt := 1916) dL_law_975 (by decide) c7 ?_
    exact l_L_law_b1916 hk23 hq
  · refine jw_icmp_eq_f (tgt := 1916) dL_law_975 (by decide) c7 ?_
    refine jw_iconst dL_law_978 (v := (0 : Int32)) (by decide) ?_
    cases hq
    exact jw_iret (ty := .boolean) dL_law_979 rfl rfl

set_option maxRecDepth 100000 in
set_option maxHeartbeats 4000000 in
theorem l_L_law_b1033 {Ls : Nat} {xs : Nat → Int32} {hi : jw_H} {k23 : jw_H → Nat → Nat → Option Nat → Int32 → Option (Int32 × jw_H)} (hk23 : ∀ (h : jw_H) (x1 : Nat) (x2 : Nat) (x3 : Option Nat) (x4 : Int32) (r : Int32) (h' : jw_H), k23 h x1 x2 x3 x4 = some (r, h') → jw_E 21 (uL_law Ls xs) hi 23 [some (.retAddr 0), some (.ref x1), some (.ref x2), some (va_rf x3), some (.int x4), none, none] [] h (.inl (some (.int r))) h') {h : jw_H} {x1 : Nat} {x2 : Nat} {x3 : Option Nat} {x4 : Int32} {r : Int32} {h' : jw_H} (hq : g_L_law_b1033 Ls xs k23 h x1 x2 x3 x4 = some (r, h')) : jw_E 21 (uL_law Ls xs) hi 1033 [some (.retAddr 0), some (.ref x1), some (.ref x2), some (va_rf x3), some (.int x4), none, none] [] h (.inl (some (.int r))) h' := by
  unfold g_L_law_b1033 at hq
  refine jw_goto (tgt := 1916) dL_law_1033 (by decide) ?_
  exact l_L_law_b1916 hk23 hq

set_option maxRecDepth 100000 in
set_option maxHeartbeats 4000000 in
theorem l_L_law_b980 {Ls : Nat} {xs : Nat → Int32} {hi : jw_H} {k23 : jw_H → Nat → Nat → Option Nat → Int32 → Option (Int32 × jw_H)} (hk23 : ∀ (h : jw_H) (x1 : Nat) (x2 : Nat) (x3 : Option Nat) (x4 : Int32) (r : Int32) (h' : jw_H), k23 h x1 x2 x3 x4 = some (r, h') → jw_E 21 (uL_law Ls xs) hi 23 [some (.retAddr 0), some (.ref x1), some (.ref x2), some (va_rf x3), some (.int x4), none, none] [] h (.inl (some (.int r))) h') {h : jw_H} {x1 : Nat} {x2 : Nat} {x3 : Option Nat} {x4 : Int32} {r : Int32} {h' : jw_H} (hq : g_L_law_b980 Ls xs k23 h x1 x2 x3 x4 = some (r, h')) : jw_E 21 (uL_law Ls xs) hi 980 [some (.retAddr 0), some (.ref x1), some (.ref x2), some (va_rf x3), some (.int x4), none, none] [] h (.inl (some (.int r))) h' := by
  unfold g_L_law_b980 at hq
  refine jw_aload_n dL_law_980 (o := (some x1)) rfl ?_
  refine jw_aload_nS dL_law_981 rfl ?_
  refine jw_iload dL_law_982 rfl ?_
  refine jw_iconst dL_law_984 (v := (1 : Int32)) (by decide) ?_
  refine jw_iadd dL_law_985 ?_
  obtain ⟨v1, ev1, hq⟩ := Option.bind_eq_some_iff.mp hq
  refine jw_sld (xs0 := xs) rfl dL_law_986 ev1 ?_
  refine jw_aload_n dL_law_987 (o := x3) rfl ?_
  obtain ⟨w3, h2, ew3, hq⟩ := jw_b2_spec hq
  refine jw_callSW (As := [va_rf (some x1), .int v1, va_rf x3]) (S := []) (v := some (.int w3)) dL_law_988 mw_L_mark st_L_mark lw_L_178 (c_L_mark ew3) rfl (by decide) (Nat.le_of_ble_eq_true rfl) rfl ?_
  refine jw_istore (L' := [some (.retAddr 0), some (.ref x1), some (.ref x2), some (va_rf x3), some (.int x4), some (.int w3), none]) dL_law_991 (Nat.le_of_ble_eq_true rfl) rfl ?_
  refine jw_aload_n dL_law_993 (o := (some x2)) rfl ?_
  refine jw_aload_nS dL_law_994 rfl ?_
  refine jw_iload dL_law_995 rfl ?_
  refine jw_iconst dL_law_997 (v := (1 : Int32)) (by decide) ?_
  refine jw_iadd dL_law_998 ?_
  obtain ⟨v4, ev4, hq⟩ := Option.bind_eq_some_iff.mp hq
  refine jw_sld (xs0 := xs) rfl dL_law_999 ev4 ?_
  obtain ⟨a5, ea5, hq⟩ := Option.bind_eq_some_iff.mp hq
  obtain ⟨eoa5, eta5⟩ := jw_rc_spec ea5
  obtain ⟨w7, h6, ew7, hq⟩ := jw_b2_spec hq
  refine jw_callV (As := [.int v4]) (S := []) (a := a5) (v := some (.int w7)) dL_law_1000 mt_X12_mark in_X12_mark se_X12_mark lk_L_180 (c_X12_mark ew7) eta5 (by decide) rfl rfl (by decide) (Nat.le_of_ble_eq_true rfl) (by cases eoa5; rfl) ?_
  refine jw_istore (L' := [some (.retAddr 0), some (.ref x1), some (.ref x2), some (va_rf x3), some (.int x4), some (.int w3), some (.int w7)]) dL_law_1003 (Nat.le_of_ble_eq_true rfl) rfl ?_
  refine jw_aload_n dL_law_1005 (o := (some x2)) rfl ?_
  obtain ⟨a8, ea8, hq⟩ := Option.bind_eq_some_iff.mp hq
  obtain ⟨eoa8, eta8⟩ := jw_rc_spec ea8
  obtain ⟨w10, h9, ew10, hq⟩ := jw_b2_spec hq
  refine jw_callV (As := []) (S := []) (a := a8) (v := some (.int w10)) dL_law_1006 mt_X12_thrown in_X12_thrown se_X12_thrown lk_L_108 (c_X12_thrown ew10) eta8 (by decide) rfl rfl (by decide) (Nat.le_of_ble_eq_true rfl) (by cases eoa8; rfl) ?_
  refine jw_iload dL_law_1009 rfl ?_
  rcases jw_if hq with ⟨c11, hq⟩ | ⟨c11, hq⟩
  · refine jw_icmp_eq_t (tgt := 1016) dL_law_1011 (by decide) c11 ?_
    refine jw_iload dL_law_1016 rfl ?_
    rcases jw_if hq with ⟨c12, hq⟩ | ⟨c12, hq⟩
    · refine jw_if_ne_f (tgt := 1033) dL_law_1018 (by decide) c12 ?_
      refine jw_aload_n dL_law_1021 (o := x3) rfl ?_
      refine jw_iconst dL_law_1022 (v := (0 : Int32)) (by decide) ?_
      obtain ⟨v13, ev13, hq⟩ := Option.bind_eq_some_iff.mp hq
      refine jw_lald (o := x3) dL_law_1023 ev13 ?_
      refine jw_iload dL_law_1024 rfl ?_
      refine jw_i2l dL_law_1026 ?_
      refine jw_lcmp dL_law_1027 ?_
      rcases jw_if hq with ⟨c14, hq⟩ | ⟨c14, hq⟩
      · refine jw_if_eq_t (tgt := 1033) dL_law_1028 (by decide) c14 ?_
        refine jw_forget [true, true, true, true, true, false, false] (L' := [some (.retAddr 0), some (.ref x1), some (.ref x2), some (va_rf x3), some (.int x4), none, none]) rfl ?_
        exact l_L_law_b1033 hk23 hq
      · refine jw_if_eq_f (tgt := 1033) dL_law_1028 (by decide) c14 ?_
        refine jw_iconst dL_law_1031 (v := (0 : Int32)) (by decide) ?_
        cases hq
        exact jw_iret (ty := .boolean) dL_law_1032 rfl rfl
    · refine jw_if_ne_t (tgt := 1033) dL_law_1018 (by decide) c12 ?_
      refine jw_forget [true, true, true, true, true, false, false] (L' := [some (.retAddr 0), some (.ref x1), some (.ref x2), some (va_rf x3), some (.int x4), none, none]) rfl ?_
      exact l_L_law_b1033 hk23 hq
  · refine jw_icmp_eq_f (tgt := 1016) dL_law_1011 (by decide) c11 ?_
    refine jw_iconst dL_law_1014 (v := (0 : Int32)) (by decide) ?_
    cases hq
    exact jw_iret (ty := .boolean) dL_law_1015 rfl rfl

set_option maxRecDepth 100000 in
set_option maxHeartbeats 4000000 in
theorem l_L_law_b1101 {Ls : Nat} {xs : Nat → Int32} {hi : jw_H} {k23 : jw_H → Nat → Nat → Option Nat → Int32 → Option (Int32 × jw_H)} (hk23 : ∀ (h : jw_H) (x1 : Nat) (x2 : Nat) (x3 : Option Nat) (x4 : Int32) (r : Int32) (h' : jw_H), k23 h x1 x2 x3 x4 = some (r, h') → jw_E 21 (uL_law Ls xs) hi 23 [some (.retAddr 0), some (.ref x1), some (.ref x2), some (va_rf x3), some (.int x4), none, none] [] h (.inl (some (.int r))) h') {h : jw_H} {x1 : Nat} {x2 : Nat} {x3 : Option Nat} {x4 : Int32} {r : Int32} {h' : jw_H} (hq : g_L_law_b1101 Ls xs k23 h x1 x2 x3 x4 = some (r, h')) : jw_E 21 (uL_law Ls xs) hi 1101 [some (.retAddr 0), some (.ref x1), some (.ref x2), some (va_rf x3), some (.int x4), none, none] [] h (.inl (some (.int r))) h' := by
  unfold g_L_law_b1101 at hq
  refine jw_goto (tgt := 1916) dL_law_1101 (by decide) ?_
  exact l_L_law_b1916 hk23 hq

set_option maxRecDepth 100000 in
set_option maxHeartbeats 4000000 in
theorem l_L_law_b1036 {Ls : Nat} {xs : Nat → Int32} {hi : jw_H} {k23 : jw_H → Nat → Nat → Option Nat → Int32 → Option (Int32 × jw_H)} (hk23 : ∀ (h : jw_H) (x1 : Nat) (x2 : Nat) (x3 : Option Nat) (x4 : Int32) (r : Int32) (h' : jw_H), k23 h x1 x2 x3 x4 = some (r, h') → jw_E 21 (uL_law Ls xs) hi 23 [some (.retAddr 0), some (.ref x1), some (.ref x2), some (va_rf x3), some (.int x4), none, none] [] h (.inl (some (.int r))) h') {h : jw_H} {x1 : Nat} {x2 : Nat} {x3 : Option Nat} {x4 : Int32} {r : Int32} {h' : jw_H} (hq : g_L_law_b1036 Ls xs k23 h x1 x2 x3 x4 = some (r, h')) : jw_E 21 (uL_law Ls xs) hi 1036 [some (.retAddr 0), some (.ref x1), some (.ref x2), some (va_rf x3), some (.int x4), none, none] [] h (.inl (some (.int r))) h' := by
  unfold g_L_law_b1036 at hq
  refine jw_aload_n dL_law_1036 (o := (some x1)) rfl ?_
  refine jw_aload_nS dL_law_1037 rfl ?_
  refine jw_iload dL_law_1038 rfl ?_
  refine jw_iconst dL_law_1040 (v := (1 : Int32)) (by decide) ?_
  refine jw_iadd dL_law_1041 ?_
  obtain ⟨v1, ev1, hq⟩ := Option.bind_eq_some_iff.mp hq
  refine jw_sld (xs0 := xs) rfl dL_law_1042 ev1 ?_
  refine jw_aload_nS dL_law_1043 rfl ?_
  refine jw_iload dL_law_1044 rfl ?_
  refine jw_iconst dL_law_1046 (v := (2 : Int32)) (by decide) ?_
  refine jw_iadd dL_law_1047 ?_
  obtain ⟨v2, ev2, hq⟩ := Option.bind_eq_some_iff.mp hq
  refine jw_sld (xs0 := xs) rfl dL_law_1048 ev2 ?_
  refine jw_aload_n dL_law_1049 (o := x3) rfl ?_
  obtain ⟨w4, h3, ew4, hq⟩ := jw_b2_spec hq
  refine jw_callSW (As := [va_rf (some x1), .int v1, .int v2, va_rf x3]) (S := []) (v := some (.int w4)) dL_law_1050 mw_L_sample st_L_sample lw_L_181 (c_L_sample ew4) rfl (by decide) (Nat.le_of_ble_eq_true rfl) rfl ?_
  refine jw_istore (L' := [some (.retAddr 0), some (.ref x1), some (.ref x2), some (va_rf x3), some (.int x4), some (.int w4), none]) dL_law_1053 (Nat.le_of_ble_eq_true rfl) rfl ?_
  refine jw_aload_n dL_law_1055 (o := (some x2)) rfl ?_
  refine jw_aload_nS dL_law_1056 rfl ?_
  refine jw_iload dL_law_1057 rfl ?_
  refine jw_iconst dL_law_1059 (v := (1 : Int32)) (by decide) ?_
  refine jw_iadd dL_law_1060 ?_
  obtain ⟨v5, ev5, hq⟩ := Option.bind_eq_some_iff.mp hq
  refine jw_sld (xs0 := xs) rfl dL_law_1061 ev5 ?_
  refine jw_aload_nS dL_law_1062 rfl ?_
  refine jw_iload dL_law_1063 rfl ?_
  refine jw_iconst dL_law_1065 (v := (2 : Int32)) (by decide) ?_
  refine jw_iadd dL_law_1066 ?_
  obtain ⟨v6, ev6, hq⟩ := Option.bind_eq_some_iff.mp hq
  refine jw_sld (xs0 := xs) rfl dL_law_1067 ev6 ?_
  obtain ⟨a7, ea7, hq⟩ := Option.bind_eq_some_iff.mp hq
  obtain ⟨eoa7, eta7⟩ := jw_rc_spec ea7
  obtain ⟨w9, h8, ew9, hq⟩ := jw_b2_spec hq
  refine jw_callV (As := [.int v5, .int v6]) (S := []) (a := a7) (v := some (.int w9)) dL_law_1068 mt_X12_sample in_X12_sample se_X12_sample lk_L_183 (c_X12_sample ew9) eta7 (by decide) rfl rfl (by decide) (Nat.le_of_ble_eq_true rfl) (by cases eoa7; rfl) ?_
  refine jw_istore (L' := [some (.retAddr 0), some (.ref x1), some (.ref x2), some (va_rf x3), some (.int x4), some (.int w4), some (.int w9)]) dL_law_1071 (Nat.le_of_ble_eq_true rfl) rfl ?_
  refine jw_aload_n dL_law_1073 (o := (some x2)) rfl ?_
  obtain ⟨a10, ea10, hq⟩ := Option.bind_eq_some_iff.mp hq
  obtain ⟨eoa10, eta10⟩ := jw_rc_spec ea10
  obtain ⟨w12, h11, ew12, hq⟩ := jw_b2_spec hq
  refine jw_callV (As := []) (S := []) (a := a10) (v := some (.int w12)) dL_law_1074 mt_X12_thrown in_X12_thrown se_X12_thrown lk_L_108 (c_X12_thrown ew12) eta10 (by decide) rfl rfl (by decide) (Nat.le_of_ble_eq_true rfl) (by cases eoa10; rfl) ?_
  refine jw_iload dL_law_1077 rfl ?_
  rcases jw_if hq with ⟨c13, hq⟩ | ⟨c13, hq⟩
  · refine jw_icmp_eq_t (tgt := 1084) dL_law_1079 (by decide) c13 ?_
    refine jw_iload dL_law_1084 rfl ?_
    rcases jw_if hq with ⟨c14, hq⟩ | ⟨c14, hq⟩
    · refine jw_if_ne_f (tgt := 1101) dL_law_1086 (by decide) c14 ?_
      refine jw_aload_n dL_law_1089 (o := x3) rfl ?_
      refine jw_iconst dL_law_1090 (v := (0 : Int32)) (by decide) ?_
      obtain ⟨v15, ev15, hq⟩ := Option.bind_eq_some_iff.mp hq
      refine jw_lald (o := x3) dL_law_1091 ev15 ?_
      refine jw_iload dL_law_1092 rfl ?_
      refine jw_i2l dL_law_1094 ?_
      refine jw_lcmp dL_law_1095 ?_
      rcases jw_if hq with ⟨c16, hq⟩ | ⟨c16, hq⟩
      · refine jw_if_eq_t (tgt := 1101) dL_law_1096 (by decide) c16 ?_
        refine jw_forget [true, true, true, true, true, false, false] (L' := [some (.retAddr 0), some (.ref x1), some (.ref x2), some (va_rf x3), some (.int x4), none, none]) rfl ?_
        exact l_L_law_b1101 hk23 hq
      · refine jw_if_eq_f (tgt := 1101) dL_law_1096 (by decide) c16 ?_
        refine jw_iconst dL_law_1099 (v := (0 : Int32)) (by decide) ?_
        cases hq
        exact jw_iret (ty := .boolean) dL_law_1100 rfl rfl
    · refine jw_if_ne_t (tgt := 1101) dL_law_1086 (by decide) c14 ?_
      refine jw_forget [true, true, true, true, true, false, false] (L' := [some (.retAddr 0), some (.ref x1), some (.ref x2), some (va_rf x3), some (.int x4), none, none]) rfl ?_
      exact l_L_law_b1101 hk23 hq
  · refine jw_icmp_eq_f (tgt := 1084) dL_law_1079 (by decide) c13 ?_
    refine jw_iconst dL_law_1082 (v := (0 : Int32)) (by decide) ?_
    cases hq
    exact jw_iret (ty := .boolean) dL_law_1083 rfl rfl

set_option maxRecDepth 100000 in
set_option maxHeartbeats 4000000 in
theorem l_L_law_b1104 {Ls : Nat} {xs : Nat → Int32} {hi : jw_H} {k23 : jw_H → Nat → Nat → Option Nat → Int32 → Option (Int32 × jw_H)} (hk23 : ∀ (h : jw_H) (x1 : Nat) (x2 : Nat) (x3 : Option Nat) (x4 : Int32) (r : Int32) (h' : jw_H), k23 h x1 x2 x3 x4 = some (r, h') → jw_E 21 (uL_law Ls xs) hi 23 [some (.retAddr 0), some (.ref x1), some (.ref x2), some (va_rf x3), some (.int x4), none, none] [] h (.inl (some (.int r))) h') {h : jw_H} {x1 : Nat} {x2 : Nat} {x3 : Option Nat} {x4 : Int32} {r : Int32} {h' : jw_H} (hq : g_L_law_b1104 Ls xs k23 h x1 x2 x3 x4 = some (r, h')) : jw_E 21 (uL_law Ls xs) hi 1104 [some (.retAddr 0), some (.ref x1), some (.ref x2), some (va_rf x3), some (.int x4), none, none] [] h (.inl (some (.int r))) h' := by
  unfold g_L_law_b1104 at hq
  refine jw_aload_n dL_law_1104 (o := (some x1)) rfl ?_
  obtain ⟨a1, ea1, hq⟩ := Option.bind_eq_some_iff.mp hq
  obtain ⟨eoa1, eta1⟩ := jw_rc_spec ea1
  obtain ⟨w3, h2, ew3, hq⟩ := jw_b2_spec hq
  refine jw_callV (As := []) (S := []) (a := a1) (v := some (.int w3)) dL_law_1105 mt_X11_held in_X11_held se_X11_held lk_L_184 (c_X11_held ew3) eta1 (by decide) rfl rfl (by decide) (Nat.le_of_ble_eq_true rfl) (by cases eoa1; rfl) ?_
  refine jw_aload_n dL_law_1108 (o := (some x2)) rfl ?_
  obtain ⟨a4, ea4, hq⟩ := Option.bind_eq_some_iff.mp hq
  obtain ⟨eoa4, eta4⟩ := jw_rc_spec ea4
  obtain ⟨w6, h5, ew6, hq⟩ := jw_b2_spec hq
  refine jw_callV (As := []) (S := [.int w3]) (a := a4) (v := some (.int w6)) dL_law_1109 mt_X12_held in_X12_held se_X12_held lk_L_187 (c_X12_held ew6) eta4 (by decide) rfl rfl (by decide) (Nat.le_of_ble_eq_true rfl) (by cases eoa4; rfl) ?_
  rcases jw_if hq with ⟨c7, hq⟩ | ⟨c7, hq⟩
  · refine jw_icmp_eq_t (tgt := 1916) dL_law_1112 (by decide) c7 ?_
    exact l_L_law_b1916 hk23 hq
  · refine jw_icmp_eq_f (tgt := 1916) dL_law_1112 (by decide) c7 ?_
    refine jw_iconst dL_law_1115 (v := (0 : Int32)) (by decide) ?_
    cases hq
    exact jw_iret (ty := .boolean) dL_law_1116 rfl rfl

set_option maxRecDepth 100000 in
set_option maxHeartbeats 4000000 in
theorem l_L_law_b1170 {Ls : Nat} {xs : Nat → Int32} {hi : jw_H} {k23 : jw_H → Nat → Nat → Option Nat → Int32 → Option (Int32 × jw_H)} (hk23 : ∀ (h : jw_H) (x1 : Nat) (x2 : Nat) (x3 : Option Nat) (x4 : Int32) (r : Int32) (h' : jw_H), k23 h x1 x2 x3 x4 = some (r, h') → jw_E 21 (uL_law Ls xs) hi 23 [some (.retAddr 0), some (.ref x1), some (.ref x2), some (va_rf x3), some (.int x4), none, none] [] h (.inl (some (.int r))) h') {h : jw_H} {x1 : Nat} {x2 : Nat} {x3 : Option Nat} {x4 : Int32} {r : Int32} {h' : jw_H} (hq : g_L_law_b1170 Ls xs k23 h x1 x2 x3 x4 = some (r, h')) : jw_E 21 (uL_law Ls xs) hi 1170 [some (.retAddr 0), some (.ref x1), some (.ref x2), some (va_rf x3), some (.int x4), none, none] [] h (.inl (some (.int r))) h' := by
  unfold g_L_law_b1170 at hq
  refine jw_goto (tgt := 1916) dL_law_1170 (by decide) ?_
  exact l_L_law_b1916 hk23 hq

set_option maxRecDepth 100000 in
set_option maxHeartbeats 4000000 in
theorem l_L_law_b1117 {Ls : Nat} {xs : Nat → Int32} {hi : jw_H} {k23 : jw_H → Nat → Nat → Option Nat → Int32 → Option (Int32 × jw_H)} (hk23 : ∀ (h : jw_H) (x1 : Nat) (x2 : Nat) (x3 : Option Nat) (x4 : Int32) (r : Int32) (h' : jw_H), k23 h x1 x2 x3 x4 = some (r, h') → jw_E 21 (uL_law Ls xs) hi 23 [some (.retAddr 0), some (.ref x1), some (.ref x2), some (va_rf x3), some (.int x4), none, none] [] h (.inl (some (.int r))) h') {h : jw_H} {x1 : Nat} {x2 : Nat} {x3 : Option Nat} {x4 : Int32} {r : Int32} {h' : jw_H} (hq : g_L_law_b1117 Ls xs k23 h x1 x2 x3 x4 = some (r, h')) : jw_E 21 (uL_law Ls xs) hi 1117 [some (.retAddr 0), some (.ref x1), some (.ref x2), some (va_rf x3), some (.int x4), none, none] [] h (.inl (some (.int r))) h' := by
  unfold g_L_law_b1117 at hq
  refine jw_aload_n dL_law_1117 (o := (some x1)) rfl ?_
  refine jw_aload_nS dL_law_1118 rfl ?_
  refine jw_iload dL_law_1119 rfl ?_
  refine jw_iconst dL_law_1121 (v := (1 : Int32)) (by decide) ?_
  refine jw_iadd dL_law_1122 ?_
  obtain ⟨v1, ev1, hq⟩ := Option.bind_eq_some_iff.mp hq
  refine jw_sld (xs0 := xs) rfl dL_law_1123 ev1 ?_
  refine jw_aload_n dL_law_1124 (o := x3) rfl ?_
  obtain ⟨w3, h2, ew3, hq⟩ := jw_b2_spec hq
  refine jw_callSW (As := [va_rf (some x1), .int v1, va_rf x3]) (S := []) (v := some (.int w3)) dL_law_1125 mw_L_heldLength st_L_heldLength lw_L_188 (c_L_heldLength ew3) rfl (by decide) (Nat.le_of_ble_eq_true rfl) rfl ?_
  refine jw_istore (L' := [some (.retAddr 0), some (.ref x1), some (.ref x2), some (va_rf x3), some (.int x4), some (.int w3), none]) dL_law_1128 (Nat.le_of_ble_eq_true rfl) rfl ?_
  refine jw_aload_n dL_law_1130 (o := (some x2)) rfl ?_
  refine jw_aload_nS dL_law_1131 rfl ?_
  refine jw_iload dL_law_1132 rfl ?_
  refine jw_iconst dL_law_1134 (v := (1 : Int32)) (by decide) ?_
  refine jw_iadd dL_law_1135 ?_
  obtain ⟨v4, ev4, hq⟩ := Option.bind_eq_some_iff.mp hq
  refine jw_sld (xs0 := xs) rfl dL_law_1136 ev4 ?_
  obtain ⟨a5, ea5, hq⟩ := Option.bind_eq_some_iff.mp hq
  obtain ⟨eoa5, eta5⟩ := jw_rc_spec ea5
  obtain ⟨w7, h6, ew7, hq⟩ := jw_b2_spec hq
  refine jw_callV (As := [.int v4]) (S := []) (a := a5) (v := some (.int w7)) dL_law_1137 mt_X12_heldLength in_X12_heldLength se_X12_heldLength lk_L_190 (c_X12_heldLength ew7) eta5 (by decide) rfl rfl (by decide) (Nat.le_of_ble_eq_true rfl) (by cases eoa5; rfl) ?_
  refine jw_istore (L' := [some (.retAddr 0), some (.ref x1), some (.ref x2), some (va_rf x3), some (.int x4), some (.int w3), some (.int w7)]) dL_law_1140 (Nat.le_of_ble_eq_true rfl) rfl ?_
  refine jw_aload_n dL_law_1142 (o := (some x2)) rfl ?_
  obtain ⟨a8, ea8, hq⟩ := Option.bind_eq_some_iff.mp hq
  obtain ⟨eoa8, eta8⟩ := jw_rc_spec ea8
  obtain ⟨w10, h9, ew10, hq⟩ := jw_b2_spec hq
  refine jw_callV (As := []) (S := []) (a := a8) (v := some (.int w10)) dL_law_1143 mt_X12_thrown in_X12_thrown se_X12_thrown lk_L_108 (c_X12_thrown ew10) eta8 (by decide) rfl rfl (by decide) (Nat.le_of_ble_eq_true rfl) (by cases eoa8; rfl) ?_
  refine jw_iload dL_law_1146 rfl ?_
  rcases jw_if hq with ⟨c11, hq⟩ | ⟨c11, hq⟩
  · refine jw_icmp_eq_t (tgt := 1153) dL_law_1148 (by decide) c11 ?_
    refine jw_iload dL_law_1153 rfl ?_
    rcases jw_if hq with ⟨c12, hq⟩ | ⟨c12, hq⟩
    · refine jw_if_ne_f (tgt := 1170) dL_law_1155 (by decide) c12 ?_
      refine jw_aload_n dL_law_1158 (o := x3) rfl ?_
      refine jw_iconst dL_law_1159 (v := (0 : Int32)) (by decide) ?_
      obtain ⟨v13, ev13, hq⟩ := Option.bind_eq_some_iff.mp hq
      refine jw_lald (o := x3) dL_law_1160 ev13 ?_
      refine jw_iload dL_law_1161 rfl ?_
      refine jw_i2l dL_law_1163 ?_
      refine jw_lcmp dL_law_1164 ?_
      rcases jw_if hq with ⟨c14, hq⟩ | ⟨c14, hq⟩
      · refine jw_if_eq_t (tgt := 1170) dL_law_1165 (by decide) c14 ?_
        refine jw_forget [true, true, true, true, true, false, false] (L' := [some (.retAddr 0), some (.ref x1), some (.ref x2), some (va_rf x3), some (.int x4), none, none]) rfl ?_
        exact l_L_law_b1170 hk23 hq
      · refine jw_if_eq_f (tgt := 1170) dL_law_1165 (by decide) c14 ?_
        refine jw_iconst dL_law_1168 (v := (0 : Int32)) (by decide) ?_
        cases hq
        exact jw_iret (ty := .boolean) dL_law_1169 rfl rfl
    · refine jw_if_ne_t (tgt := 1170) dL_law_1155 (by decide) c12 ?_
      refine jw_forget [true, true, true, true, true, false, false] (L' := [some (.retAddr 0), some (.ref x1), some (.ref x2), some (va_rf x3), some (.int x4), none, none]) rfl ?_
      exact l_L_law_b1170 hk23 hq
  · refine jw_icmp_eq_f (tgt := 1153) dL_law_1148 (by decide) c11 ?_
    refine jw_iconst dL_law_1151 (v := (0 : Int32)) (by decide) ?_
    cases hq
    exact jw_iret (ty := .boolean) dL_law_1152 rfl rfl

set_option maxRecDepth 100000 in
set_option maxHeartbeats 4000000 in
theorem l_L_law_b1238 {Ls : Nat} {xs : Nat → Int32} {hi : jw_H} {k23 : jw_H → Nat → Nat → Option Nat → Int32 → Option (Int32 × jw_H)} (hk23 : ∀ (h : jw_H) (x1 : Nat) (x2 : Nat) (x3 : Option Nat) (x4 : Int32) (r : Int32) (h' : jw_H), k23 h x1 x2 x3 x4 = some (r, h') → jw_E 21 (uL_law Ls xs) hi 23 [some (.retAddr 0), some (.ref x1), some (.ref x2), some (va_rf x3), some (.int x4), none, none] [] h (.inl (some (.int r))) h') {h : jw_H} {x1 : Nat} {x2 : Nat} {x3 : Option Nat} {x4 : Int32} {r : Int32} {h' : jw_H} (hq : g_L_law_b1238 Ls xs k23 h x1 x2 x3 x4 = some (r, h')) : jw_E 21 (uL_law Ls xs) hi 1238 [some (.retAddr 0), some (.ref x1), some (.ref x2), some (va_rf x3), some (.int x4), none, none] [] h (.inl (some (.int r))) h' := by
  unfold g_L_law_b1238 at hq
  refine jw_goto (tgt := 1916) dL_law_1238 (by decide) ?_
  exact l_L_law_b1916 hk23 hq

set_option maxRecDepth 100000 in
set_option maxHeartbeats 4000000 in
theorem l_L_law_b1173 {Ls : Nat} {xs : Nat → Int32} {hi : jw_H} {k23 : jw_H → Nat → Nat → Option Nat → Int32 → Option (Int32 × jw_H)} (hk23 : ∀ (h : jw_H) (x1 : Nat) (x2 : Nat) (x3 : Option Nat) (x4 : Int32) (r : Int32) (h' : jw_H), k23 h x1 x2 x3 x4 = some (r, h') → jw_E 21 (uL_law Ls xs) hi 23 [some (.retAddr 0), some (.ref x1), some (.ref x2), some (va_rf x3), some (.int x4), none, none] [] h (.inl (some (.int r))) h') {h : jw_H} {x1 : Nat} {x2 : Nat} {x3 : Option Nat} {x4 : Int32} {r : Int32} {h' : jw_H} (hq : g_L_law_b1173 Ls xs k23 h x1 x2 x3 x4 = some (r, h')) : jw_E 21 (uL_law Ls xs) hi 1173 [some (.retAddr 0), some (.ref x1), some (.ref x2), some (va_rf x3), some (.int x4), none, none] [] h (.inl (some (.int r))) h' := by
  unfold g_L_law_b1173 at hq
  refine jw_aload_n dL_law_1173 (o := (some x1)) rfl ?_
  refine jw_aload_nS dL_law_1174 rfl ?_
  refine jw_iload dL_law_1175 rfl ?_
  refine jw_iconst dL_law_1177 (v := (1 : Int32)) (by decide) ?_
  refine jw_iadd dL_law_1178 ?_
  obtain ⟨v1, ev1, hq⟩ := Option.bind_eq_some_iff.mp hq
  refine jw_sld (xs0 := xs) rfl dL_law_1179 ev1 ?_
  refine jw_aload_nS dL_law_1180 rfl ?_
  refine jw_iload dL_law_1181 rfl ?_
  refine jw_iconst dL_law_1183 (v := (2 : Int32)) (by decide) ?_
  refine jw_iadd dL_law_1184 ?_
  obtain ⟨v2, ev2, hq⟩ := Option.bind_eq_some_iff.mp hq
  refine jw_sld (xs0 := xs) rfl dL_law_1185 ev2 ?_
  refine jw_aload_n dL_law_1186 (o := x3) rfl ?_
  obtain ⟨w4, h3, ew4, hq⟩ := jw_b2_spec hq
  refine jw_callSW (As := [va_rf (some x1), .int v1, .int v2, va_rf x3]) (S := []) (v := some (.int w4)) dL_law_1187 mw_L_heldAt st_L_heldAt lw_L_191 (c_L_heldAt ew4) rfl (by decide) (Nat.le_of_ble_eq_true rfl) rfl ?_
  refine jw_istore (L' := [some (.retAddr 0), some (.ref x1), some (.ref x2), some (va_rf x3), some (.int x4), some (.int w4), none]) dL_law_1190 (Nat.le_of_ble_eq_true rfl) rfl ?_
  refine jw_aload_n dL_law_1192 (o := (some x2)) rfl ?_
  refine jw_aload_nS dL_law_1193 rfl ?_
  refine jw_iload dL_law_1194 rfl ?_
  refine jw_iconst dL_law_1196 (v := (1 : Int32)) (by decide) ?_
  refine jw_iadd dL_law_1197 ?_
  obtain ⟨v5, ev5, hq⟩ := Option.bind_eq_some_iff.mp hq
  refine jw_sld (xs0 := xs) rfl dL_law_1198 ev5 ?_
  refine jw_aload_nS dL_law_1199 rfl ?_
  refine jw_iload dL_law_1200 rfl ?_
  refine jw_iconst dL_law_1202 (v := (2 : Int32)) (by decide) ?_
  refine jw_iadd dL_law_1203 ?_
  obtain ⟨v6, ev6, hq⟩ := Option.bind_eq_some_iff.mp hq
  refine jw_sld (xs0 := xs) rfl dL_law_1204 ev6 ?_
  obtain ⟨a7, ea7, hq⟩ := Option.bind_eq_some_iff.mp hq
  obtain ⟨eoa7, eta7⟩ := jw_rc_spec ea7
  obtain ⟨w9, h8, ew9, hq⟩ := jw_b2_spec hq
  refine jw_callV (As := [.int v5, .int v6]) (S := []) (a := a7) (v := some (.int w9)) dL_law_1205 mt_X12_heldAt in_X12_heldAt se_X12_heldAt lk_L_193 (c_X12_heldAt ew9) eta7 (by decide) rfl rfl (by decide) (Nat.le_of_ble_eq_true rfl) (by cases eoa7; rfl) ?_
  refine jw_istore (L' := [some (.retAddr 0), some (.ref x1), some (.ref x2), some (va_rf x3), some (.int x4), some (.int w4), some (.int w9)]) dL_law_1208 (Nat.le_of_ble_eq_true rfl) rfl ?_
  refine jw_aload_n dL_law_1210 (o := (some x2)) rfl ?_
  obtain ⟨a10, ea10, hq⟩ := Option.bind_eq_some_iff.mp hq
  obtain ⟨eoa10, eta10⟩ := jw_rc_spec ea10
  obtain ⟨w12, h11, ew12, hq⟩ := jw_b2_spec hq
  refine jw_callV (As := []) (S := []) (a := a10) (v := some (.int w12)) dL_law_1211 mt_X12_thrown in_X12_thrown se_X12_thrown lk_L_108 (c_X12_thrown ew12) eta10 (by decide) rfl rfl (by decide) (Nat.le_of_ble_eq_true rfl) (by cases eoa10; rfl) ?_
  refine jw_iload dL_law_1214 rfl ?_
  rcases jw_if hq with ⟨c13, hq⟩ | ⟨c13, hq⟩
  · refine jw_icmp_eq_t (tgt := 1221) dL_law_1216 (by decide) c13 ?_
    refine jw_iload dL_law_1221 rfl ?_
    rcases jw_if hq with ⟨c14, hq⟩ | ⟨c14, hq⟩
    · refine jw_if_ne_f (tgt := 1238) dL_law_1223 (by decide) c14 ?_
      refine jw_aload_n dL_law_1226 (o := x3) rfl ?_
      refine jw_iconst dL_law_1227 (v := (0 : Int32)) (by decide) ?_
      obtain ⟨v15, ev15, hq⟩ := Option.bind_eq_some_iff.mp hq
      refine jw_lald (o := x3) dL_law_1228 ev15 ?_
      refine jw_iload dL_law_1229 rfl ?_
      refine jw_i2l dL_law_1231 ?_
      refine jw_lcmp dL_law_1232 ?_
      rcases jw_if hq with ⟨c16, hq⟩ | ⟨c16, hq⟩
      · refine jw_if_eq_t (tgt := 1238) dL_law_1233 (by decide) c16 ?_
        refine jw_forget [true, true, true, true, true, false, false] (L' := [some (.retAddr 0), some (.ref x1), some (.ref x2), some (va_rf x3), some (.int x4), none, none]) rfl ?_
        exact l_L_law_b1238 hk23 hq
      · refine jw_if_eq_f (tgt := 1238) dL_law_1233 (by decide) c16 ?_
        refine jw_iconst dL_law_1236 (v := (0 : Int32)) (by decide) ?_
        cases hq
        exact jw_iret (ty := .boolean) dL_law_1237 rfl rfl
    · refine jw_if_ne_t (tgt := 1238) dL_law_1223 (by decide) c14 ?_
      refine jw_forget [true, true, true, true, true, false, false] (L' := [some (.retAddr 0), some (.ref x1), some (.ref x2), some (va_rf x3), some (.int x4), none, none]) rfl ?_
      exact l_L_law_b1238 hk23 hq
  · refine jw_icmp_eq_f (tgt := 1221) dL_law_1216 (by decide) c13 ?_
    refine jw_iconst dL_law_1219 (v := (0 : Int32)) (by decide) ?_
    cases hq
    exact jw_iret (ty := .boolean) dL_law_1220 rfl rfl

set_option maxRecDepth 100000 in
set_option maxHeartbeats 4000000 in
theorem l_L_law_b1241 {Ls : Nat} {xs : Nat → Int32} {hi : jw_H} {k23 : jw_H → Nat → Nat → Option Nat → Int32 → Option (Int32 × jw_H)} (hk23 : ∀ (h : jw_H) (x1 : Nat) (x2 : Nat) (x3 : Option Nat) (x4 : Int32) (r : Int32) (h' : jw_H), k23 h x1 x2 x3 x4 = some (r, h') → jw_E 21 (uL_law Ls xs) hi 23 [some (.retAddr 0), some (.ref x1), some (.ref x2), some (va_rf x3), some (.int x4), none, none] [] h (.inl (some (.int r))) h') {h : jw_H} {x1 : Nat} {x2 : Nat} {x3 : Option Nat} {x4 : Int32} {r : Int32} {h' : jw_H} (hq : g_L_law_b1241 Ls xs k23 h x1 x2 x3 x4 = some (r, h')) : jw_E 21 (uL_law Ls xs) hi 1241 [some (.retAddr 0), some (.ref x1), some (.ref x2), some (va_rf x3), some (.int x4), none, none] [] h (.inl (some (.int r))) h' := by
  unfold g_L_law_b1241 at hq
  refine jw_aload_n dL_law_1241 (o := (some x1)) rfl ?_
  obtain ⟨a1, ea1, hq⟩ := Option.bind_eq_some_iff.mp hq
  obtain ⟨eoa1, eta1⟩ := jw_rc_spec ea1
  obtain ⟨w3, h2, ew3, hq⟩ := jw_b2_spec hq
  refine jw_callV (As := []) (S := []) (a := a1) (v := some (.int w3)) dL_law_1242 mt_X11_outs in_X11_outs se_X11_outs lk_L_194 (c_X11_outs ew3) eta1 (by decide) rfl rfl (by decide) (Nat.le_of_ble_eq_true rfl) (by cases eoa1; rfl) ?_
  refine jw_aload_n dL_law_1245 (o := (some x2)) rfl ?_
  obtain ⟨a4, ea4, hq⟩ := Option.bind_eq_some_iff.mp hq
  obtain ⟨eoa4, eta4⟩ := jw_rc_spec ea4
  obtain ⟨w6, h5, ew6, hq⟩ := jw_b2_spec hq
  refine jw_callV (As := []) (S := [.int w3]) (a := a4) (v := some (.int w6)) dL_law_1246 mt_X12_outs in_X12_outs se_X12_outs lk_L_197 (c_X12_outs ew6) eta4 (by decide) rfl rfl (by decide) (Nat.le_of_ble_eq_true rfl) (by cases eoa4; rfl) ?_
  rcases jw_if hq with ⟨c7, hq⟩ | ⟨c7, hq⟩
  · refine jw_icmp_eq_t (tgt := 1916) dL_law_1249 (by decide) c7 ?_
    exact l_L_law_b1916 hk23 hq
  · refine jw_icmp_eq_f (tgt := 1916) dL_law_1249 (by decide) c7 ?_
    refine jw_iconst dL_law_1252 (v := (0 : Int32)) (by decide) ?_
    cases hq
    exact jw_iret (ty := .boolean) dL_law_1253 rfl rfl

set_option maxRecDepth 100000 in
set_option maxHeartbeats 4000000 in
theorem l_L_law_b1307 {Ls : Nat} {xs : Nat → Int32} {hi : jw_H} {k23 : jw_H → Nat → Nat → Option Nat → Int32 → Option (Int32 × jw_H)} (hk23 : ∀ (h : jw_H) (x1 : Nat) (x2 : Nat) (x3 : Option Nat) (x4 : Int32) (r : Int32) (h' : jw_H), k23 h x1 x2 x3 x4 = some (r, h') → jw_E 21 (uL_law Ls xs) hi 23 [some (.retAddr 0), some (.ref x1), some (.ref x2), some (va_rf x3), some (.int x4), none, none] [] h (.inl (some (.int r))) h') {h : jw_H} {x1 : Nat} {x2 : Nat} {x3 : Option Nat} {x4 : Int32} {r : Int32} {h' : jw_H} (hq : g_L_law_b1307 Ls xs k23 h x1 x2 x3 x4 = some (r, h')) : jw_E 21 (uL_law Ls xs) hi 1307 [some (.retAddr 0), some (.ref x1), some (.ref x2), some (va_rf x3), some (.int x4), none, none] [] h (.inl (some (.int r))) h' := by
  unfold g_L_law_b1307 at hq
  refine jw_goto (tgt := 1916) dL_law_1307 (by decide) ?_
  exact l_L_law_b1916 hk23 hq

set_option maxRecDepth 100000 in
set_option maxHeartbeats 4000000 in
theorem l_L_law_b1254 {Ls : Nat} {xs : Nat → Int32} {hi : jw_H} {k23 : jw_H → Nat → Nat → Option Nat → Int32 → Option (Int32 × jw_H)} (hk23 : ∀ (h : jw_H) (x1 : Nat) (x2 : Nat) (x3 : Option Nat) (x4 : Int32) (r : Int32) (h' : jw_H), k23 h x1 x2 x3 x4 = some (r, h') → jw_E 21 (uL_law Ls xs) hi 23 [some (.retAddr 0), some (.ref x1), some (.ref x2), some (va_rf x3), some (.int x4), none, none] [] h (.inl (some (.int r))) h') {h : jw_H} {x1 : Nat} {x2 : Nat} {x3 : Option Nat} {x4 : Int32} {r : Int32} {h' : jw_H} (hq : g_L_law_b1254 Ls xs k23 h x1 x2 x3 x4 = some (r, h')) : jw_E 21 (uL_law Ls xs) hi 1254 [some (.retAddr 0), some (.ref x1), some (.ref x2), some (va_rf x3), some (.int x4), none, none] [] h (.inl (some (.int r))) h' := by
  unfold g_L_law_b1254 at hq
  refine jw_aload_n dL_law_1254 (o := (some x1)) rfl ?_
  refine jw_aload_nS dL_law_1255 rfl ?_
  refine jw_iload dL_law_1256 rfl ?_
  refine jw_iconst dL_law_1258 (v := (1 : Int32)) (by decide) ?_
  refine jw_iadd dL_law_1259 ?_
  obtain ⟨v1, ev1, hq⟩ := Option.bind_eq_some_iff.mp hq
  refine jw_sld (xs0 := xs) rfl dL_law_1260 ev1 ?_
  refine jw_aload_n dL_law_1261 (o := x3) rfl ?_
  obtain ⟨w3, h2, ew3, hq⟩ := jw_b2_spec hq
  refine jw_callSW (As := [va_rf (some x1), .int v1, va_rf x3]) (S := []) (v := some (.int w3)) dL_law_1262 mw_L_outLength st_L_outLength lw_L_198 (c_L_outLength ew3) rfl (by decide) (Nat.le_of_ble_eq_true rfl) rfl ?_
  refine jw_istore (L' := [some (.retAddr 0), some (.ref x1), some (.ref x2), some (va_rf x3), some (.int x4), some (.int w3), none]) dL_law_1265 (Nat.le_of_ble_eq_true rfl) rfl ?_
  refine jw_aload_n dL_law_1267 (o := (some x2)) rfl ?_
  refine jw_aload_nS dL_law_1268 rfl ?_
  refine jw_iload dL_law_1269 rfl ?_
  refine jw_iconst dL_law_1271 (v := (1 : Int32)) (by decide) ?_
  refine jw_iadd dL_law_1272 ?_
  obtain ⟨v4, ev4, hq⟩ := Option.bind_eq_some_iff.mp hq
  refine jw_sld (xs0 := xs) rfl dL_law_1273 ev4 ?_
  obtain ⟨a5, ea5, hq⟩ := Option.bind_eq_some_iff.mp hq
  obtain ⟨eoa5, eta5⟩ := jw_rc_spec ea5
  obtain ⟨w7, h6, ew7, hq⟩ := jw_b2_spec hq
  refine jw_callV (As := [.int v4]) (S := []) (a := a5) (v := some (.int w7)) dL_law_1274 mt_X12_outLength in_X12_outLength se_X12_outLength lk_L_200 (c_X12_outLength ew7) eta5 (by decide) rfl rfl (by decide) (Nat.le_of_ble_eq_true rfl) (by cases eoa5; rfl) ?_
  refine jw_istore (L' := [some (.retAddr 0), some (.ref x1), some (.ref x2), some (va_rf x3), some (.int x4), some (.int w3), some (.int w7)]) dL_law_1277 (Nat.le_of_ble_eq_true rfl) rfl ?_
  refine jw_aload_n dL_law_1279 (o := (some x2)) rfl ?_
  obtain ⟨a8, ea8, hq⟩ := Option.bind_eq_some_iff.mp hq
  obtain ⟨eoa8, eta8⟩ := jw_rc_spec ea8
  obtain ⟨w10, h9, ew10, hq⟩ := jw_b2_spec hq
  refine jw_callV (As := []) (S := []) (a := a8) (v := some (.int w10)) dL_law_1280 mt_X12_thrown in_X12_thrown se_X12_thrown lk_L_108 (c_X12_thrown ew10) eta8 (by decide) rfl rfl (by decide) (Nat.le_of_ble_eq_true rfl) (by cases eoa8; rfl) ?_
  refine jw_iload dL_law_1283 rfl ?_
  rcases jw_if hq with ⟨c11, hq⟩ | ⟨c11, hq⟩
  · refine jw_icmp_eq_t (tgt := 1290) dL_law_1285 (by decide) c11 ?_
    refine jw_iload dL_law_1290 rfl ?_
    rcases jw_if hq with ⟨c12, hq⟩ | ⟨c12, hq⟩
    · refine jw_if_ne_f (tgt := 1307) dL_law_1292 (by decide) c12 ?_
      refine jw_aload_n dL_law_1295 (o := x3) rfl ?_
      refine jw_iconst dL_law_1296 (v := (0 : Int32)) (by decide) ?_
      obtain ⟨v13, ev13, hq⟩ := Option.bind_eq_some_iff.mp hq
      refine jw_lald (o := x3) dL_law_1297 ev13 ?_
      refine jw_iload dL_law_1298 rfl ?_
      refine jw_i2l dL_law_1300 ?_
      refine jw_lcmp dL_law_1301 ?_
      rcases jw_if hq with ⟨c14, hq⟩ | ⟨c14, hq⟩
      · refine jw_if_eq_t (tgt := 1307) dL_law_1302 (by decide) c14 ?_
        refine jw_forget [true, true, true, true, true, false, false] (L' := [some (.retAddr 0), some (.ref x1), some (.ref x2), some (va_rf x3), some (.int x4), none, none]) rfl ?_
        exact l_L_law_b1307 hk23 hq
      · refine jw_if_eq_f (tgt := 1307) dL_law_1302 (by decide) c14 ?_
        refine jw_iconst dL_law_1305 (v := (0 : Int32)) (by decide) ?_
        cases hq
        exact jw_iret (ty := .boolean) dL_law_1306 rfl rfl
    · refine jw_if_ne_t (tgt := 1307) dL_law_1292 (by decide) c12 ?_
      refine jw_forget [true, true, true, true, true, false, false] (L' := [some (.retAddr 0), some (.ref x1), some (.ref x2), some (va_rf x3), some (.int x4), none, none]) rfl ?_
      exact l_L_law_b1307 hk23 hq
  · refine jw_icmp_eq_f (tgt := 1290) dL_law_1285 (by decide) c11 ?_
    refine jw_iconst dL_law_1288 (v := (0 : Int32)) (by decide) ?_
    cases hq
    exact jw_iret (ty := .boolean) dL_law_1289 rfl rfl

set_option maxRecDepth 100000 in
set_option maxHeartbeats 4000000 in
theorem l_L_law_b1375 {Ls : Nat} {xs : Nat → Int32} {hi : jw_H} {k23 : jw_H → Nat → Nat → Option Nat → Int32 → Option (Int32 × jw_H)} (hk23 : ∀ (h : jw_H) (x1 : Nat) (x2 : Nat) (x3 : Option Nat) (x4 : Int32) (r : Int32) (h' : jw_H), k23 h x1 x2 x3 x4 = some (r, h') → jw_E 21 (uL_law Ls xs) hi 23 [some (.retAddr 0), some (.ref x1), some (.ref x2), some (va_rf x3), some (.int x4), none, none] [] h (.inl (some (.int r))) h') {h : jw_H} {x1 : Nat} {x2 : Nat} {x3 : Option Nat} {x4 : Int32} {r : Int32} {h' : jw_H} (hq : g_L_law_b1375 Ls xs k23 h x1 x2 x3 x4 = some (r, h')) : jw_E 21 (uL_law Ls xs) hi 1375 [some (.retAddr 0), some (.ref x1), some (.ref x2), some (va_rf x3), some (.int x4), none, none] [] h (.inl (some (.int r))) h' := by
  unfold g_L_law_b1375 at hq
  refine jw_goto (tgt := 1916) dL_law_1375 (by decide) ?_
  exact l_L_law_b1916 hk23 hq

set_option maxRecDepth 100000 in
set_option maxHeartbeats 4000000 in
theorem l_L_law_b1310 {Ls : Nat} {xs : Nat → Int32} {hi : jw_H} {k23 : jw_H → Nat → Nat → Option Nat → Int32 → Option (Int32 × jw_H)} (hk23 : ∀ (h : jw_H) (x1 : Nat) (x2 : Nat) (x3 : Option Nat) (x4 : Int32) (r : Int32) (h' : jw_H), k23 h x1 x2 x3 x4 = some (r, h') → jw_E 21 (uL_law Ls xs) hi 23 [some (.retAddr 0), some (.ref x1), some (.ref x2), some (va_rf x3), some (.int x4), none, none] [] h (.inl (some (.int r))) h') {h : jw_H} {x1 : Nat} {x2 : Nat} {x3 : Option Nat} {x4 : Int32} {r : Int32} {h' : jw_H} (hq : g_L_law_b1310 Ls xs k23 h x1 x2 x3 x4 = some (r, h')) : jw_E 21 (uL_law Ls xs) hi 1310 [some (.retAddr 0), some (.ref x1), some (.ref x2), some (va_rf x3), some (.int x4), none, none] [] h (.inl (some (.int r))) h' := by
  unfold g_L_law_b1310 at hq
  refine jw_aload_n dL_law_1310 (o := (some x1)) rfl ?_
  refine jw_aload_nS dL_law_1311 rfl ?_
  refine jw_iload dL_law_1312 rfl ?_
  refine jw_iconst dL_law_1314 (v := (1 : Int32)) (by decide) ?_
  refine jw_iadd dL_law_1315 ?_
  obtain ⟨v1, ev1, hq⟩ := Option.bind_eq_some_iff.mp hq
  refine jw_sld (xs0 := xs) rfl dL_law_1316 ev1 ?_
  refine jw_aload_nS dL_law_1317 rfl ?_
  refine jw_iload dL_law_1318 rfl ?_
  refine jw_iconst dL_law_1320 (v := (2 : Int32)) (by decide) ?_
  refine jw_iadd dL_law_1321 ?_
  obtain ⟨v2, ev2, hq⟩ := Option.bind_eq_some_iff.mp hq
  refine jw_sld (xs0 := xs) rfl dL_law_1322 ev2 ?_
  refine jw_aload_n dL_law_1323 (o := x3) rfl ?_
  obtain ⟨w4, h3, ew4, hq⟩ := jw_b2_spec hq
  refine jw_callSW (As := [va_rf (some x1), .int v1, .int v2, va_rf x3]) (S := []) (v := some (.int w4)) dL_law_1324 mw_L_outAt st_L_outAt lw_L_201 (c_L_outAt ew4) rfl (by decide) (Nat.le_of_ble_eq_true rfl) rfl ?_
  refine jw_istore (L' := [some (.retAddr 0), some (.ref x1), some (.ref x2), some (va_rf x3), some (.int x4), some (.int w4), none]) dL_law_1327 (Nat.le_of_ble_eq_true rfl) rfl ?_
  refine jw_aload_n dL_law_1329 (o := (some x2)) rfl ?_
  refine jw_aload_nS dL_law_1330 rfl ?_
  refine jw_iload dL_law_1331 rfl ?_
  refine jw_iconst dL_law_1333 (v := (1 : Int32)) (by decide) ?_
  refine jw_iadd dL_law_1334 ?_
  obtain ⟨v5, ev5, hq⟩ := Option.bind_eq_some_iff.mp hq
  refine jw_sld (xs0 := xs) rfl dL_law_1335 ev5 ?_
  refine jw_aload_nS dL_law_1336 rfl ?_
  refine jw_iload dL_law_1337 rfl ?_
  refine jw_iconst dL_law_1339 (v := (2 : Int32)) (by decide) ?_
  refine jw_iadd dL_law_1340 ?_
  obtain ⟨v6, ev6, hq⟩ := Option.bind_eq_some_iff.mp hq
  refine jw_sld (xs0 := xs) rfl dL_law_1341 ev6 ?_
  obtain ⟨a7, ea7, hq⟩ := Option.bind_eq_some_iff.mp hq
  obtain ⟨eoa7, eta7⟩ := jw_rc_spec ea7
  obtain ⟨w9, h8, ew9, hq⟩ := jw_b2_spec hq
  refine jw_callV (As := [.int v5, .int v6]) (S := []) (a := a7) (v := some (.int w9)) dL_law_1342 mt_X12_outAt in_X12_outAt se_X12_outAt lk_L_203 (c_X12_outAt ew9) eta7 (by decide) rfl rfl (by decide) (Nat.le_of_ble_eq_true rfl) (by cases eoa7; rfl) ?_
  refine jw_istore (L' := [some (.retAddr 0), some (.ref x1), some (.ref x2), some (va_rf x3), some (.int x4), some (.int w4), some (.int w9)]) dL_law_1345 (Nat.le_of_ble_eq_true rfl) rfl ?_
  refine jw_aload_n dL_law_1347 (o := (some x2)) rfl ?_
  obtain ⟨a10, ea10, hq⟩ := Option.bind_eq_some_iff.mp hq
  obtain ⟨eoa10, eta10⟩ := jw_rc_spec ea10
  obtain ⟨w12, h11, ew12, hq⟩ := jw_b2_spec hq
  refine jw_callV (As := []) (S := []) (a := a10) (v := some (.int w12)) dL_law_1348 mt_X12_thrown in_X12_thrown se_X12_thrown lk_L_108 (c_X12_thrown ew12) eta10 (by decide) rfl rfl (by decide) (Nat.le_of_ble_eq_true rfl) (by cases eoa10; rfl) ?_
  refine jw_iload dL_law_1351 rfl ?_
  rcases jw_if hq with ⟨c13, hq⟩ | ⟨c13, hq⟩
  · refine jw_icmp_eq_t (tgt := 1358) dL_law_1353 (by decide) c13 ?_
    refine jw_iload dL_law_1358 rfl ?_
    rcases jw_if hq with ⟨c14, hq⟩ | ⟨c14, hq⟩
    · refine jw_if_ne_f (tgt := 1375) dL_law_1360 (by decide) c14 ?_
      refine jw_aload_n dL_law_1363 (o := x3) rfl ?_
      refine jw_iconst dL_law_1364 (v := (0 : Int32)) (by decide) ?_
      obtain ⟨v15, ev15, hq⟩ := Option.bind_eq_some_iff.mp hq
      refine jw_lald (o := x3) dL_law_1365 ev15 ?_
      refine jw_iload dL_law_1366 rfl ?_
      refine jw_i2l dL_law_1368 ?_
      refine jw_lcmp dL_law_1369 ?_
      rcases jw_if hq with ⟨c16, hq⟩ | ⟨c16, hq⟩
      · refine jw_if_eq_t (tgt := 1375) dL_law_1370 (by decide) c16 ?_
        refine jw_forget [true, true, true, true, true, false, false] (L' := [some (.retAddr 0), some (.ref x1), some (.ref x2), some (va_rf x3), some (.int x4), none, none]) rfl ?_
        exact l_L_law_b1375 hk23 hq
      · refine jw_if_eq_f (tgt := 1375) dL_law_1370 (by decide) c16 ?_
        refine jw_iconst dL_law_1373 (v := (0 : Int32)) (by decide) ?_
        cases hq
        exact jw_iret (ty := .boolean) dL_law_1374 rfl rfl
    · refine jw_if_ne_t (tgt := 1375) dL_law_1360 (by decide) c14 ?_
      refine jw_forget [true, true, true, true, true, false, false] (L' := [some (.retAddr 0), some (.ref x1), some (.ref x2), some (va_rf x3), some (.int x4), none, none]) rfl ?_
      exact l_L_law_b1375 hk23 hq
  · refine jw_icmp_eq_f (tgt := 1358) dL_law_1353 (by decide) c13 ?_
    refine jw_iconst dL_law_1356 (v := (0 : Int32)) (by decide) ?_
    cases hq
    exact jw_iret (ty := .boolean) dL_law_1357 rfl rfl

set_option maxRecDepth 100000 in
set_option maxHeartbeats 4000000 in
theorem l_L_law_b1378 {Ls : Nat} {xs : Nat → Int32} {hi : jw_H} {k23 : jw_H → Nat → Nat → Option Nat → Int32 → Option (Int32 × jw_H)} (hk23 : ∀ (h : jw_H) (x1 : Nat) (x2 : Nat) (x3 : Option Nat) (x4 : Int32) (r : Int32) (h' : jw_H), k23 h x1 x2 x3 x4 = some (r, h') → jw_E 21 (uL_law Ls xs) hi 23 [some (.retAddr 0), some (.ref x1), some (.ref x2), some (va_rf x3), some (.int x4), none, none] [] h (.inl (some (.int r))) h') {h : jw_H} {x1 : Nat} {x2 : Nat} {x3 : Option Nat} {x4 : Int32} {r : Int32} {h' : jw_H} (hq : g_L_law_b1378 Ls xs k23 h x1 x2 x3 x4 = some (r, h')) : jw_E 21 (uL_law Ls xs) hi 1378 [some (.retAddr 0), some (.ref x1), some (.ref x2), some (va_rf x3), some (.int x4), none, none] [] h (.inl (some (.int r))) h' := by
  unfold g_L_law_b1378 at hq
  refine jw_aload_n dL_law_1378 (o := (some x1)) rfl ?_
  obtain ⟨a1, ea1, hq⟩ := Option.bind_eq_some_iff.mp hq
  obtain ⟨eoa1, eta1⟩ := jw_rc_spec ea1
  obtain ⟨w3, h2, ew3, hq⟩ := jw_b2_spec hq
  refine jw_callV (As := []) (S := []) (a := a1) (v := some (.int w3)) dL_law_1379 mt_X11_clearOut in_X11_clearOut se_X11_clearOut lk_L_204 (c_X11_clearOut ew3) eta1 (by decide) rfl rfl (by decide) (Nat.le_of_ble_eq_true rfl) (by cases eoa1; rfl) ?_
  refine jw_aload_n dL_law_1382 (o := (some x2)) rfl ?_
  obtain ⟨a4, ea4, hq⟩ := Option.bind_eq_some_iff.mp hq
  obtain ⟨eoa4, eta4⟩ := jw_rc_spec ea4
  obtain ⟨w6, h5, ew6, hq⟩ := jw_b2_spec hq
  refine jw_callV (As := []) (S := [.int w3]) (a := a4) (v := some (.int w6)) dL_law_1383 mt_X12_clearOut in_X12_clearOut se_X12_clearOut lk_L_207 (c_X12_clearOut ew6) eta4 (by decide) rfl rfl (by decide) (Nat.le_of_ble_eq_true rfl) (by cases eoa4; rfl) ?_
  rcases jw_if hq with ⟨c7, hq⟩ | ⟨c7, hq⟩
  · refine jw_icmp_eq_t (tgt := 1916) dL_law_1386 (by decide) c7 ?_
    exact l_L_law_b1916 hk23 hq
  · refine jw_icmp_eq_f (tgt := 1916) dL_law_1386 (by decide) c7 ?_
    refine jw_iconst dL_law_1389 (v := (0 : Int32)) (by decide) ?_
    cases hq
    exact jw_iret (ty := .boolean) dL_law_1390 rfl rfl

set_option maxRecDepth 100000 in
set_option maxHeartbeats 4000000 in
theorem l_L_law_b1444 {Ls : Nat} {xs : Nat → Int32} {hi : jw_H} {k23 : jw_H → Nat → Nat → Option Nat → Int32 → Option (Int32 × jw_H)} (hk23 : ∀ (h : jw_H) (x1 : Nat) (x2 : Nat) (x3 : Option Nat) (x4 : Int32) (r : Int32) (h' : jw_H), k23 h x1 x2 x3 x4 = some (r, h') → jw_E 21 (uL_law Ls xs) hi 23 [some (.retAddr 0), some (.ref x1), some (.ref x2), some (va_rf x3), some (.int x4), none, none] [] h (.inl (some (.int r))) h') {h : jw_H} {x1 : Nat} {x2 : Nat} {x3 : Option Nat} {x4 : Int32} {r : Int32} {h' : jw_H} (hq : g_L_law_b1444 Ls xs k23 h x1 x2 x3 x4 = some (r, h')) : jw_E 21 (uL_law Ls xs) hi 1444 [some (.retAddr 0), some (.ref x1), some (.ref x2), some (va_rf x3), some (.int x4), none, none] [] h (.inl (some (.int r))) h' := by
  unfold g_L_law_b1444 at hq
  refine jw_goto (tgt := 1916) dL_law_1444 (by decide) ?_
  exact l_L_law_b1916 hk23 hq

set_option maxRecDepth 100000 in
set_option maxHeartbeats 4000000 in
theorem l_L_law_b1391 {Ls : Nat} {xs : Nat → Int32} {hi : jw_H} {k23 : jw_H → Nat → Nat → Option Nat → Int32 → Option (Int32 × jw_H)} (hk23 : ∀ (h : jw_H) (x1 : Nat) (x2 : Nat) (x3 : Option Nat) (x4 : Int32) (r : Int32) (h' : jw_H), k23 h x1 x2 x3 x4 = some (r, h') → jw_E 21 (uL_law Ls xs) hi 23 [some (.retAddr 0), some (.ref x1), some (.ref x2), some (va_rf x3), some (.int x4), none, none] [] h (.inl (some (.int r))) h') {h : jw_H} {x1 : Nat} {x2 : Nat} {x3 : Option Nat} {x4 : Int32} {r : Int32} {h' : jw_H} (hq : g_L_law_b1391 Ls xs k23 h x1 x2 x3 x4 = some (r, h')) : jw_E 21 (uL_law Ls xs) hi 1391 [some (.retAddr 0), some (.ref x1), some (.ref x2), some (va_rf x3), some (.int x4), none, none] [] h (.inl (some (.int r))) h' := by
  unfold g_L_law_b1391 at hq
  refine jw_aload_n dL_law_1391 (o := (some x1)) rfl ?_
  refine jw_aload_nS dL_law_1392 rfl ?_
  refine jw_iload dL_law_1393 rfl ?_
  refine jw_iconst dL_law_1395 (v := (1 : Int32)) (by decide) ?_
  refine jw_iadd dL_law_1396 ?_
  obtain ⟨v1, ev1, hq⟩ := Option.bind_eq_some_iff.mp hq
  refine jw_sld (xs0 := xs) rfl dL_law_1397 ev1 ?_
  refine jw_aload_n dL_law_1398 (o := x3) rfl ?_
  obtain ⟨w3, h2, ew3, hq⟩ := jw_b2_spec hq
  refine jw_callSW (As := [va_rf (some x1), .int v1, va_rf x3]) (S := []) (v := some (.int w3)) dL_law_1399 mw_L_fileRows st_L_fileRows lw_L_208 (c_L_fileRows ew3) rfl (by decide) (Nat.le_of_ble_eq_true rfl) rfl ?_
  refine jw_istore (L' := [some (.retAddr 0), some (.ref x1), some (.ref x2), some (va_rf x3), some (.int x4), some (.int w3), none]) dL_law_1402 (Nat.le_of_ble_eq_true rfl) rfl ?_
  refine jw_aload_n dL_law_1404 (o := (some x2)) rfl ?_
  refine jw_aload_nS dL_law_1405 rfl ?_
  refine jw_iload dL_law_1406 rfl ?_
  refine jw_iconst dL_law_1408 (v := (1 : Int32)) (by decide) ?_
  refine jw_iadd dL_law_1409 ?_
  obtain ⟨v4, ev4, hq⟩ := Option.bind_eq_some_iff.mp hq
  refine jw_sld (xs0 := xs) rfl dL_law_1410 ev4 ?_
  obtain ⟨a5, ea5, hq⟩ := Option.bind_eq_some_iff.mp hq
  obtain ⟨eoa5, eta5⟩ := jw_rc_spec ea5
  obtain ⟨w7, h6, ew7, hq⟩ := jw_b2_spec hq
  refine jw_callV (As := [.int v4]) (S := []) (a := a5) (v := some (.int w7)) dL_law_1411 mt_X12_fileRows in_X12_fileRows se_X12_fileRows lk_L_210 (c_X12_fileRows ew7) eta5 (by decide) rfl rfl (by decide) (Nat.le_of_ble_eq_true rfl) (by cases eoa5; rfl) ?_
  refine jw_istore (L' := [some (.retAddr 0), some (.ref x1), some (.ref x2), some (va_rf x3), some (.int x4), some (.int w3), some (.int w7)]) dL_law_1414 (Nat.le_of_ble_eq_true rfl) rfl ?_
  refine jw_aload_n dL_law_1416 (o := (some x2)) rfl ?_
  obtain ⟨a8, ea8, hq⟩ := Option.bind_eq_some_iff.mp hq
  obtain ⟨eoa8, eta8⟩ := jw_rc_spec ea8
  obtain ⟨w10, h9, ew10, hq⟩ := jw_b2_spec hq
  refine jw_callV (As := []) (S := []) (a := a8) (v := some (.int w10)) dL_law_1417 mt_X12_thrown in_X12_thrown se_X12_thrown lk_L_108 (c_X12_thrown ew10) eta8 (by decide) rfl rfl (by decide) (Nat.le_of_ble_eq_true rfl) (by cases eoa8; rfl) ?_
  refine jw_iload dL_law_1420 rfl ?_
  rcases jw_if hq with ⟨c11, hq⟩ | ⟨c11, hq⟩
  · refine jw_icmp_eq_t (tgt := 1427) dL_law_1422 (by decide) c11 ?_
    refine jw_iload dL_law_1427 rfl ?_
    rcases jw_if hq with ⟨c12, hq⟩ | ⟨c12, hq⟩
    · refine jw_if_ne_f (tgt := 1444) dL_law_1429 (by decide) c12 ?_
      refine jw_aload_n dL_law_1432 (o := x3) rfl ?_
      refine jw_iconst dL_law_1433 (v := (0 : Int32)) (by decide) ?_
      obtain ⟨v13, ev13, hq⟩ := Option.bind_eq_some_iff.mp hq
      refine jw_lald (o := x3) dL_law_1434 ev13 ?_
      refine jw_iload dL_law_1435 rfl ?_
      refine jw_i2l dL_law_1437 ?_
      refine jw_lcmp dL_law_1438 ?_
      rcases jw_if hq with ⟨c14, hq⟩ | ⟨c14, hq⟩
      · refine jw_if_eq_t (tgt := 1444) dL_law_1439 (by decide) c14 ?_
        refine jw_forget [true, true, true, true, true, false, false] (L' := [some (.retAddr 0), some (.ref x1), some (.ref x2), some (va_rf x3), some (.int x4), none, none]) rfl ?_
        exact l_L_law_b1444 hk23 hq
      · refine jw_if_eq_f (tgt := 1444) dL_law_1439 (by decide) c14 ?_
        refine jw_iconst dL_law_1442 (v := (0 : Int32)) (by decide) ?_
        cases hq
        exact jw_iret (ty := .boolean) dL_law_1443 rfl rfl
    · refine jw_if_ne_t (tgt := 1444) dL_law_1429 (by decide) c12 ?_
      refine jw_forget [true, true, true, true, true, false, false] (L' := [some (.retAddr 0), some (.ref x1), some (.ref x2), some (va_rf x3), some (.int x4), none, none]) rfl ?_
      exact l_L_law_b1444 hk23 hq
  · refine jw_icmp_eq_f (tgt := 1427) dL_law_1422 (by decide) c11 ?_
    refine jw_iconst dL_law_1425 (v := (0 : Int32)) (by decide) ?_
    cases hq
    exact jw_iret (ty := .boolean) dL_law_1426 rfl rfl

set_option maxRecDepth 100000 in
set_option maxHeartbeats 4000000 in
theorem l_L_law_b1512 {Ls : Nat} {xs : Nat → Int32} {hi : jw_H} {k23 : jw_H → Nat → Nat → Option Nat → Int32 → Option (Int32 × jw_H)} (hk23 : ∀ (h : jw_H) (x1 : Nat) (x2 : Nat) (x3 : Option Nat) (x4 : Int32) (r : Int32) (h' : jw_H), k23 h x1 x2 x3 x4 = some (r, h') → jw_E 21 (uL_law Ls xs) hi 23 [some (.retAddr 0), some (.ref x1), some (.ref x2), some (va_rf x3), some (.int x4), none, none] [] h (.inl (some (.int r))) h') {h : jw_H} {x1 : Nat} {x2 : Nat} {x3 : Option Nat} {x4 : Int32} {r : Int32} {h' : jw_H} (hq : g_L_law_b1512 Ls xs k23 h x1 x2 x3 x4 = some (r, h')) : jw_E 21 (uL_law Ls xs) hi 1512 [some (.retAddr 0), some (.ref x1), some (.ref x2), some (va_rf x3), some (.int x4), none, none] [] h (.inl (some (.int r))) h' := by
  unfold g_L_law_b1512 at hq
  refine jw_goto (tgt := 1916) dL_law_1512 (by decide) ?_
  exact l_L_law_b1916 hk23 hq

set_option maxRecDepth 100000 in
set_option maxHeartbeats 4000000 in
theorem l_L_law_b1447 {Ls : Nat} {xs : Nat → Int32} {hi : jw_H} {k23 : jw_H → Nat → Nat → Option Nat → Int32 → Option (Int32 × jw_H)} (hk23 : ∀ (h : jw_H) (x1 : Nat) (x2 : Nat) (x3 : Option Nat) (x4 : Int32) (r : Int32) (h' : jw_H), k23 h x1 x2 x3 x4 = some (r, h') → jw_E 21 (uL_law Ls xs) hi 23 [some (.retAddr 0), some (.ref x1), some (.ref x2), some (va_rf x3), some (.int x4), none, none] [] h (.inl (some (.int r))) h') {h : jw_H} {x1 : Nat} {x2 : Nat} {x3 : Option Nat} {x4 : Int32} {r : Int32} {h' : jw_H} (hq : g_L_law_b1447 Ls xs k23 h x1 x2 x3 x4 = some (r, h')) : jw_E 21 (uL_law Ls xs) hi 1447 [some (.retAddr 0), some (.ref x1), some (.ref x2), some (va_rf x3), some (.int x4), none, none] [] h (.inl (some (.int r))) h' := by
  unfold g_L_law_b1447 at hq
  refine jw_aload_n dL_law_1447 (o := (some x1)) rfl ?_
  refine jw_aload_nS dL_law_1448 rfl ?_
  refine jw_iload dL_law_1449 rfl ?_
  refine jw_iconst dL_law_1451 (v := (1 : Int32)) (by decide) ?_
  refine jw_iadd dL_law_1452 ?_
  obtain ⟨v1, ev1, hq⟩ := Option.bind_eq_some_iff.mp hq
  refine jw_sld (xs0 := xs) rfl dL_law_1453 ev1 ?_
  refine jw_aload_nS dL_law_1454 rfl ?_
  refine jw_iload dL_law_1455 rfl ?_
  refine jw_iconst dL_law_1457 (v := (2 : Int32)) (by decide) ?_
  refine jw_iadd dL_law_1458 ?_
  obtain ⟨v2, ev2, hq⟩ := Option.bind_eq_some_iff.mp hq
  refine jw_sld (xs0 := xs) rfl dL_law_1459 ev2 ?_
  refine jw_aload_n dL_law_1460 (o := x3) rfl ?_
  obtain ⟨w4, h3, ew4, hq⟩ := jw_b2_spec hq
  refine jw_callSW (As := [va_rf (some x1), .int v1, .int v2, va_rf x3]) (S := []) (v := some (.int w4)) dL_law_1461 mw_L_fileLength st_L_fileLength lw_L_211 (c_L_fileLength ew4) rfl (by decide) (Nat.le_of_ble_eq_true rfl) rfl ?_
  refine jw_istore (L' := [some (.retAddr 0), some (.ref x1), some (.ref x2), some (va_rf x3), some (.int x4), some (.int w4), none]) dL_law_1464 (Nat.le_of_ble_eq_true rfl) rfl ?_
  refine jw_aload_n dL_law_1466 (o := (some x2)) rfl ?_
  refine jw_aload_nS dL_law_1467 rfl ?_
  refine jw_iload dL_law_1468 rfl ?_
  refine jw_iconst dL_law_1470 (v := (1 : Int32)) (by decide) ?_
  refine jw_iadd dL_law_1471 ?_
  obtain ⟨v5, ev5, hq⟩ := Option.bind_eq_some_iff.mp hq
  refine jw_sld (xs0 := xs) rfl dL_law_1472 ev5 ?_
  refine jw_aload_nS dL_law_1473 rfl ?_
  refine jw_iload dL_law_1474 rfl ?_
  refine jw_iconst dL_law_1476 (v := (2 : Int32)) (by decide) ?_
  refine jw_iadd dL_law_1477 ?_
  obtain ⟨v6, ev6, hq⟩ := Option.bind_eq_some_iff.mp hq
  refine jw_sld (xs0 := xs) rfl dL_law_1478 ev6 ?_
  obtain ⟨a7, ea7, hq⟩ := Option.bind_eq_some_iff.mp hq
  obtain ⟨eoa7, eta7⟩ := jw_rc_spec ea7
  obtain ⟨w9, h8, ew9, hq⟩ := jw_b2_spec hq
  refine jw_callV (As := [.int v5, .int v6]) (S := []) (a := a7) (v := some (.int w9)) dL_law_1479 mt_X12_fileLength in_X12_fileLength se_X12_fileLength lk_L_213 (c_X12_fileLength ew9) eta7 (by decide) rfl rfl (by decide) (Nat.le_of_ble_eq_true rfl) (by cases eoa7; rfl) ?_
  refine jw_istore (L' := [some (.retAddr 0), some (.ref x1), some (.ref x2), some (va_rf x3), some (.int x4), some (.int w4), some (.int w9)]) dL_law_1482 (Nat.le_of_ble_eq_true rfl) rfl ?_
  refine jw_aload_n dL_law_1484 (o := (some x2)) rfl ?_
  obtain ⟨a10, ea10, hq⟩ := Option.bind_eq_some_iff.mp hq
  obtain ⟨eoa10, eta10⟩ := jw_rc_spec ea10
  obtain ⟨w12, h11, ew12, hq⟩ := jw_b2_spec hq
  refine jw_callV (As := []) (S := []) (a := a10) (v := some (.int w12)) dL_law_1485 mt_X12_thrown in_X12_thrown se_X12_thrown lk_L_108 (c_X12_thrown ew12) eta10 (by decide) rfl rfl (by decide) (Nat.le_of_ble_eq_true rfl) (by cases eoa10; rfl) ?_
  refine jw_iload dL_law_1488 rfl ?_
  rcases jw_if hq with ⟨c13, hq⟩ | ⟨c13, hq⟩
  · refine jw_icmp_eq_t (tgt := 1495) dL_law_1490 (by decide) c13 ?_
    refine jw_iload dL_law_1495 rfl ?_
    rcases jw_if hq with ⟨c14, hq⟩ | ⟨c14, hq⟩
    · refine jw_if_ne_f (tgt := 1512) dL_law_1497 (by decide) c14 ?_
      refine jw_aload_n dL_law_1500 (o := x3) rfl ?_
      refine jw_iconst dL_law_1501 (v := (0 : Int32)) (by decide) ?_
      obtain ⟨v15, ev15, hq⟩ := Option.bind_eq_some_iff.mp hq
      refine jw_lald (o := x3) dL_law_1502 ev15 ?_
      refine jw_iload dL_law_1503 rfl ?_
      refine jw_i2l dL_law_1505 ?_
      refine jw_lcmp dL_law_1506 ?_
      rcases jw_if hq with ⟨c16, hq⟩ | ⟨c16, hq⟩
      · refine jw_if_eq_t (tgt := 1512) dL_law_1507 (by decide) c16 ?_
        refine jw_forget [true, true, true, true, true, false, false] (L' := [some (.retAddr 0), some (.ref x1), some (.ref x2), some (va_rf x3), some (.int x4), none, none]) rfl ?_
        exact l_L_law_b1512 hk23 hq
      · refine jw_if_eq_f (tgt := 1512) dL_law_1507 (by decide) c16 ?_
        refine jw_iconst dL_law_1510 (v := (0 : Int32)) (by decide) ?_
        cases hq
        exact jw_iret (ty := .boolean) dL_law_1511 rfl rfl
    · refine jw_if_ne_t (tgt := 1512) dL_law_1497 (by decide) c14 ?_
      refine jw_forget [true, true, true, true, true, false, false] (L' := [some (.retAddr 0), some (.ref x1), some (.ref x2), some (va_rf x3), some (.int x4), none, none]) rfl ?_
      exact l_L_law_b1512 hk23 hq
  · refine jw_icmp_eq_f (tgt := 1495) dL_law_1490 (by decide) c13 ?_
    refine jw_iconst dL_law_1493 (v := (0 : Int32)) (by decide) ?_
    cases hq
    exact jw_iret (ty := .boolean) dL_law_1494 rfl rfl

set_option maxRecDepth 100000 in
set_option maxHeartbeats 4000000 in
theorem l_L_law_b1592 {Ls : Nat} {xs : Nat → Int32} {hi : jw_H} {k23 : jw_H → Nat → Nat → Option Nat → Int32 → Option (Int32 × jw_H)} (hk23 : ∀ (h : jw_H) (x1 : Nat) (x2 : Nat) (x3 : Option Nat) (x4 : Int32) (r : Int32) (h' : jw_H), k23 h x1 x2 x3 x4 = some (r, h') → jw_E 21 (uL_law Ls xs) hi 23 [some (.retAddr 0), some (.ref x1), some (.ref x2), some (va_rf x3), some (.int x4), none, none] [] h (.inl (some (.int r))) h') {h : jw_H} {x1 : Nat} {x2 : Nat} {x3 : Option Nat} {x4 : Int32} {r : Int32} {h' : jw_H} (hq : g_L_law_b1592 Ls xs k23 h x1 x2 x3 x4 = some (r, h')) : jw_E 21 (uL_law Ls xs) hi 1592 [some (.retAddr 0), some (.ref x1), some (.ref x2), some (va_rf x3), some (.int x4), none, none] [] h (.inl (some (.int r))) h' := by
  unfold g_L_law_b1592 at hq
  refine jw_goto (tgt := 1916) dL_law_1592 (by decide) ?_
  exact l_L_law_b1916 hk23 hq

set_option maxRecDepth 100000 in
set_option maxHeartbeats 4000000 in
theorem l_L_law_b1515 {Ls : Nat} {xs : Nat → Int32} {hi : jw_H} {k23 : jw_H → Nat → Nat → Option Nat → Int32 → Option (Int32 × jw_H)} (hk23 : ∀ (h : jw_H) (x1 : Nat) (x2 : Nat) (x3 : Option Nat) (x4 : Int32) (r : Int32) (h' : jw_H), k23 h x1 x2 x3 x4 = some (r, h') → jw_E 21 (uL_law Ls xs) hi 23 [some (.retAddr 0), some (.ref x1), some (.ref x2), some (va_rf x3), some (.int x4), none, none] [] h (.inl (some (.int r))) h') {h : jw_H} {x1 : Nat} {x2 : Nat} {x3 : Option Nat} {x4 : Int32} {r : Int32} {h' : jw_H} (hq : g_L_law_b1515 Ls xs k23 h x1 x2 x3 x4 = some (r, h')) : jw_E 21 (uL_law Ls xs) hi 1515 [some (.retAddr 0), some (.ref x1), some (.ref x2), some (va_rf x3), some (.int x4), none, none] [] h (.inl (some (.int r))) h' := by
  unfold g_L_law_b1515 at hq
  refine jw_aload_n dL_law_1515 (o := (some x1)) rfl ?_
  refine jw_aload_nS dL_law_1516 rfl ?_
  refine jw_iload dL_law_1517 rfl ?_
  refine jw_iconst dL_law_1519 (v := (1 : Int32)) (by decide) ?_
  refine jw_iadd dL_law_1520 ?_
  obtain ⟨v1, ev1, hq⟩ := Option.bind_eq_some_iff.mp hq
  refine jw_sld (xs0 := xs) rfl dL_law_1521 ev1 ?_
  refine jw_aload_nS dL_law_1522 rfl ?_
  refine jw_iload dL_law_1523 rfl ?_
  refine jw_iconst dL_law_1525 (v := (2 : Int32)) (by decide) ?_
  refine jw_iadd dL_law_1526 ?_
  obtain ⟨v2, ev2, hq⟩ := Option.bind_eq_some_iff.mp hq
  refine jw_sld (xs0 := xs) rfl dL_law_1527 ev2 ?_
  refine jw_aload_nS dL_law_1528 rfl ?_
  refine jw_iload dL_law_1529 rfl ?_
  refine jw_iconst dL_law_1531 (v := (3 : Int32)) (by decide) ?_
  refine jw_iadd dL_law_1532 ?_
  obtain ⟨v3, ev3, hq⟩ := Option.bind_eq_some_iff.mp hq
  refine jw_sld (xs0 := xs) rfl dL_law_1533 ev3 ?_
  refine jw_aload_n dL_law_1534 (o := x3) rfl ?_
  obtain ⟨w5, h4, ew5, hq⟩ := jw_b2_spec hq
  refine jw_callSW (As := [va_rf (some x1), .int v1, .int v2, .int v3, va_rf x3]) (S := []) (v := some (.int w5)) dL_law_1535 mw_L_fileAt st_L_fileAt lw_L_214 (c_L_fileAt ew5) rfl (by decide) (Nat.le_of_ble_eq_true rfl) rfl ?_
  refine jw_istore (L' := [some (.retAddr 0), some (.ref x1), some (.ref x2), some (va_rf x3), some (.int x4), some (.int w5), none]) dL_law_1538 (Nat.le_of_ble_eq_true rfl) rfl ?_
  refine jw_aload_n dL_law_1540 (o := (some x2)) rfl ?_
  refine jw_aload_nS dL_law_1541 rfl ?_
  refine jw_iload dL_law_1542 rfl ?_
  refine jw_iconst dL_law_1544 (v := (1 : Int32)) (by decide) ?_
  refine jw_iadd dL_law_1545 ?_
  obtain ⟨v6, ev6, hq⟩ := Option.bind_eq_some_iff.mp hq
  refine jw_sld (xs0 := xs) rfl dL_law_1546 ev6 ?_
  refine jw_aload_nS dL_law_1547 rfl ?_
  refine jw_iload dL_law_1548 rfl ?_
  refine jw_iconst dL_law_1550 (v := (2 : Int32)) (by decide) ?_
  refine jw_iadd dL_law_1551 ?_
  obtain ⟨v7, ev7, hq⟩ := Option.bind_eq_some_iff.mp hq
  refine jw_sld (xs0 := xs) rfl dL_law_1552 ev7 ?_
  refine jw_aload_nS dL_law_1553 rfl ?_
  refine jw_iload dL_law_1554 rfl ?_
  refine jw_iconst dL_law_1556 (v := (3 : Int32)) (by decide) ?_
  refine jw_iadd dL_law_1557 ?_
  obtain ⟨v8, ev8, hq⟩ := Option.bind_eq_some_iff.mp hq
  refine jw_sld (xs0 := xs) rfl dL_law_1558 ev8 ?_
  obtain ⟨a9, ea9, hq⟩ := Option.bind_eq_some_iff.mp hq
  obtain ⟨eoa9, eta9⟩ := jw_rc_spec ea9
  obtain ⟨w11, h10, ew11, hq⟩ := jw_b2_spec hq
  refine jw_callV (As := [.int v6, .int v7, .int v8]) (S := []) (a := a9) (v := some (.int w11)) dL_law_1559 mt_X12_fileAt in_X12_fileAt se_X12_fileAt lk_L_217 (c_X12_fileAt ew11) eta9 (by decide) rfl rfl (by decide) (Nat.le_of_ble_eq_true rfl) (by cases eoa9; rfl) ?_
  refine jw_istore (L' := [some (.retAddr 0), some (.ref x1), some (.ref x2), some (va_rf x3), some (.int x4), some (.int w5), some (.int w11)]) dL_law_1562 (Nat.le_of_ble_eq_true rfl) rfl ?_
  refine jw_aload_n dL_law_1564 (o := (some x2)) rfl ?_
  obtain ⟨a12, ea12, hq⟩ := Option.bind_eq_some_iff.mp hq
  obtain ⟨eoa12, eta12⟩ := jw_rc_spec ea12
  obtain ⟨w14, h13, ew14, hq⟩ := jw_b2_spec hq
  refine jw_callV (As := []) (S := []) (a := a12) (v := some (.int w14)) dL_law_1565 mt_X12_thrown in_X12_thrown se_X12_thrown lk_L_108 (c_X12_thrown ew14) eta12 (by decide) rfl rfl (by decide) (Nat.le_of_ble_eq_true rfl) (by cases eoa12; rfl) ?_
  refine jw_iload dL_law_1568 rfl ?_
  rcases jw_if hq with ⟨c15, hq⟩ | ⟨c15, hq⟩
  · refine jw_icmp_eq_t (tgt := 1575) dL_law_1570 (by decide) c15 ?_
    refine jw_iload dL_law_1575 rfl ?_
    rcases jw_if hq with ⟨c16, hq⟩ | ⟨c16, hq⟩
    · refine jw_if_ne_f (tgt := 1592) dL_law_1577 (by decide) c16 ?_
      refine jw_aload_n dL_law_1580 (o := x3) rfl ?_
      refine jw_iconst dL_law_1581 (v := (0 : Int32)) (by decide) ?_
      obtain ⟨v17, ev17, hq⟩ := Option.bind_eq_some_iff.mp hq
      refine jw_lald (o := x3) dL_law_1582 ev17 ?_
      refine jw_iload dL_law_1583 rfl ?_
      refine jw_i2l dL_law_1585 ?_
      refine jw_lcmp dL_law_1586 ?_
      rcases jw_if hq with ⟨c18, hq⟩ | ⟨c18, hq⟩
      · refine jw_if_eq_t (tgt := 1592) dL_law_1587 (by decide) c18 ?_
        refine jw_forget [true, true, true, true, true, false, false] (L' := [some (.retAddr 0), some (.ref x1), some (.ref x2), some (va_rf x3), some (.int x4), none, none]) rfl ?_
        exact l_L_law_b1592 hk23 hq
      · refine jw_if_eq_f (tgt := 1592) dL_law_1587 (by decide) c18 ?_
        refine jw_iconst dL_law_1590 (v := (0 : Int32)) (by decide) ?_
        cases hq
        exact jw_iret (ty := .boolean) dL_law_1591 rfl rfl
    · refine jw_if_ne_t (tgt := 1592) dL_law_1577 (by decide) c16 ?_
      refine jw_forget [true, true, true, true, true, false, false] (L' := [some (.retAddr 0), some (.ref x1), some (.ref x2), some (va_rf x3), some (.int x4), none, none]) rfl ?_
      exact l_L_law_b1592 hk23 hq
  · refine jw_icmp_eq_f (tgt := 1575) dL_law_1570 (by decide) c15 ?_
    refine jw_iconst dL_law_1573 (v := (0 : Int32)) (by decide) ?_
    cases hq
    exact jw_iret (ty := .boolean) dL_law_1574 rfl rfl

set_option maxRecDepth 100000 in
set_option maxHeartbeats 4000000 in
theorem l_L_law_b1664 {Ls : Nat} {xs : Nat → Int32} {hi : jw_H} {k23 : jw_H → Nat → Nat → Option Nat → Int32 → Option (Int32 × jw_H)} (hk23 : ∀ (h : jw_H) (x1 : Nat) (x2 : Nat) (x3 : Option Nat) (x4 : Int32) (r : Int32) (h' : jw_H), k23 h x1 x2 x3 x4 = some (r, h') → jw_E 21 (uL_law Ls xs) hi 23 [some (.retAddr 0), some (.ref x1), some (.ref x2), some (va_rf x3), some (.int x4), none, none] [] h (.inl (some (.int r))) h') {h : jw_H} {x1 : Nat} {x2 : Nat} {x3 : Option Nat} {x4 : Int32} {r : Int32} {h' : jw_H} (hq : g_L_law_b1664 Ls xs k23 h x1 x2 x3 x4 = some (r, h')) : jw_E 21 (uL_law Ls xs) hi 1664 [some (.retAddr 0), some (.ref x1), some (.ref x2), some (va_rf x3), some (.int x4), none, none] [] h (.inl (some (.int r))) h' := by
  unfold g_L_law_b1664 at hq
  refine jw_goto (tgt := 1916) dL_law_1664 (by decide) ?_
  exact l_L_law_b1916 hk23 hq

set_option maxRecDepth 100000 in
set_option maxHeartbeats 4000000 in
theorem l_L_law_b1631 {Ls : Nat} {xs : Nat → Int32} {hi : jw_H} {k23 : jw_H → Nat → Nat → Option Nat → Int32 → Option (Int32 × jw_H)} (hk23 : ∀ (h : jw_H) (x1 : Nat) (x2 : Nat) (x3 : Option Nat) (x4 : Int32) (r : Int32) (h' : jw_H), k23 h x1 x2 x3 x4 = some (r, h') → jw_E 21 (uL_law Ls xs) hi 23 [some (.retAddr 0), some (.ref x1), some (.ref x2), some (va_rf x3), some (.int x4), none, none] [] h (.inl (some (.int r))) h') {h : jw_H} {x1 : Nat} {x2 : Nat} {x3 : Option Nat} {x4 : Int32} {x5 : Int32} {t0 : Nat} {t1 : Int32} {r : Int32} {h' : jw_H} (hq : g_L_law_b1631 Ls xs k23 h x1 x2 x3 x4 x5 t0 t1 = some (r, h')) : jw_E 21 (uL_law Ls xs) hi 1631 [some (.retAddr 0), some (.ref x1), some (.ref x2), some (va_rf x3), some (.int x4), some (.int x5), none] [.int t1, .ref t0] h (.inl (some (.int r))) h' := by
  unfold g_L_law_b1631 at hq
  obtain ⟨a1, ea1, hq⟩ := Option.bind_eq_some_iff.mp hq
  obtain ⟨eoa1, eta1⟩ := jw_rc_spec ea1
  obtain ⟨w3, h2, ew3, hq⟩ := jw_b2_spec hq
  refine jw_callV (As := [.int t1]) (S := []) (a := a1) (v := some (.int w3)) dL_law_1631 mt_X12_find in_X12_find se_X12_find lk_L_221 (c_X12_find ew3) eta1 (by decide) rfl rfl (by decide) (Nat.le_of_ble_eq_true rfl) (by cases eoa1; rfl) ?_
  refine jw_istore (L' := [some (.retAddr 0), some (.ref x1), some (.ref x2), some (va_rf x3), some (.int x4), some (.int x5), some (.int w3)]) dL_law_1634 (Nat.le_of_ble_eq_true rfl) rfl ?_
  refine jw_aload_n dL_law_1636 (o := (some x2)) rfl ?_
  obtain ⟨a4, ea4, hq⟩ := Option.bind_eq_some_iff.mp hq
  obtain ⟨eoa4, eta4⟩ := jw_rc_spec ea4
  obtain ⟨w6, h5, ew6, hq⟩ := jw_b2_spec hq
  refine jw_callV (As := []) (S := []) (a := a4) (v := some (.int w6)) dL_law_1637 mt_X12_thrown in_X12_thrown se_X12_thrown lk_L_108 (c_X12_thrown ew6) eta4 (by decide) rfl rfl (by decide) (Nat.le_of_ble_eq_true rfl) (by cases eoa4; rfl) ?_
  refine jw_iload dL_law_1640 rfl ?_
  rcases jw_if hq with ⟨c7, hq⟩ | ⟨c7, hq⟩
  · refine jw_icmp_eq_t (tgt := 1647) dL_law_1642 (by decide) c7 ?_
    refine jw_iload dL_law_1647 rfl ?_
    rcases jw_if hq with ⟨c8, hq⟩ | ⟨c8, hq⟩
    · refine jw_if_ne_f (tgt := 1664) dL_law_1649 (by decide) c8 ?_
      refine jw_aload_n dL_law_1652 (o := x3) rfl ?_
      refine jw_iconst dL_law_1653 (v := (0 : Int32)) (by decide) ?_
      obtain ⟨v9, ev9, hq⟩ := Option.bind_eq_some_iff.mp hq
      refine jw_lald (o := x3) dL_law_1654 ev9 ?_
      refine jw_iload dL_law_1655 rfl ?_
      refine jw_i2l dL_law_1657 ?_
      refine jw_lcmp dL_law_1658 ?_
      rcases jw_if hq with ⟨c10, hq⟩ | ⟨c10, hq⟩
      · refine jw_if_eq_t (tgt := 1664) dL_law_1659 (by decide) c10 ?_
        refine jw_forget [true, true, true, true, true, false, false] (L' := [some (.retAddr 0), some (.ref x1), some (.ref x2), some (va_rf x3), some (.int x4), none, none]) rfl ?_
        exact l_L_law_b1664 hk23 hq
      · refine jw_if_eq_f (tgt := 1664) dL_law_1659 (by decide) c10 ?_
        refine jw_iconst dL_law_1662 (v := (0 : Int32)) (by decide) ?_
        cases hq
        exact jw_iret (ty := .boolean) dL_law_1663 rfl rfl
    · refine jw_if_ne_t (tgt := 1664) dL_law_1649 (by decide) c8 ?_
      refine jw_forget [true, true, true, true, true, false, false] (L' := [some (.retAddr 0), some (.ref x1), some (.ref x2), some (va_rf x3), some (.int x4), none, none]) rfl ?_
      exact l_L_law_b1664 hk23 hq
  · refine jw_icmp_eq_f (tgt := 1647) dL_law_1642 (by decide) c7 ?_
    refine jw_iconst dL_law_1645 (v := (0 : Int32)) (by decide) ?_
    cases hq
    exact jw_iret (ty := .boolean) dL_law_1646 rfl rfl

set_option maxRecDepth 100000 in
set_option maxHeartbeats 4000000 in
theorem l_L_law_b1610 {Ls : Nat} {xs : Nat → Int32} {hi : jw_H} {k23 : jw_H → Nat → Nat → Option Nat → Int32 → Option (Int32 × jw_H)} (hk23 : ∀ (h : jw_H) (x1 : Nat) (x2 : Nat) (x3 : Option Nat) (x4 : Int32) (r : Int32) (h' : jw_H), k23 h x1 x2 x3 x4 = some (r, h') → jw_E 21 (uL_law Ls xs) hi 23 [some (.retAddr 0), some (.ref x1), some (.ref x2), some (va_rf x3), some (.int x4), none, none] [] h (.inl (some (.int r))) h') {h : jw_H} {x1 : Nat} {x2 : Nat} {x3 : Option Nat} {x4 : Int32} {t0 : Nat} {t1 : Int32} {r : Int32} {h' : jw_H} (hq : g_L_law_b1610 Ls xs k23 h x1 x2 x3 x4 t0 t1 = some (r, h')) : jw_E 21 (uL_law Ls xs) hi 1610 [some (.retAddr 0), some (.ref x1), some (.ref x2), some (va_rf x3), some (.int x4), none, none] [.int t1, .ref t0] h (.inl (some (.int r))) h' := by
  unfold g_L_law_b1610 at hq
  refine jw_aload_n dL_law_1610 (o := x3) rfl ?_
  obtain ⟨w2, h1, ew2, hq⟩ := jw_b2_spec hq
  refine jw_callSW (As := [va_rf (some t0), .int t1, va_rf x3]) (S := []) (v := some (.int w2)) dL_law_1611 mw_L_find st_L_find lw_L_218 (c_L_find ew2) rfl (by decide) (Nat.le_of_ble_eq_true rfl) rfl ?_
  refine jw_istore (L' := [some (.retAddr 0), some (.ref x1), some (.ref x2), some (va_rf x3), some (.int x4), some (.int w2), none]) dL_law_1614 (Nat.le_of_ble_eq_true rfl) rfl ?_
  refine jw_aload_n dL_law_1616 (o := (some x2)) rfl ?_
  refine jw_aload_nS dL_law_1617 rfl ?_
  refine jw_iload dL_law_1618 rfl ?_
  refine jw_iconst dL_law_1620 (v := (1 : Int32)) (by decide) ?_
  refine jw_iadd dL_law_1621 ?_
  obtain ⟨v3, ev3, hq⟩ := Option.bind_eq_some_iff.mp hq
  refine jw_sld (xs0 := xs) rfl dL_law_1622 ev3 ?_
  rcases jw_if hq with ⟨c4, hq⟩ | ⟨c4, hq⟩
  · refine jw_if_eq_t (tgt := 1630) dL_law_1623 (by decide) c4 ?_
    refine jw_iconst dL_law_1630 (v := (0 : Int32)) (by decide) ?_
    exact l_L_law_b1631 hk23 hq
  · refine jw_if_eq_f (tgt := 1630) dL_law_1623 (by decide) c4 ?_
    refine jw_iconst dL_law_1626 (v := (1 : Int32)) (by decide) ?_
    refine jw_goto (tgt := 1631) dL_law_1627 (by decide) ?_
    exact l_L_law_b1631 hk23 hq

set_option maxRecDepth 100000 in
set_option maxHeartbeats 4000000 in
theorem l_L_law_b1595 {Ls : Nat} {xs : Nat → Int32} {hi : jw_H} {k23 : jw_H → Nat → Nat → Option Nat → Int32 → Option (Int32 × jw_H)} (hk23 : ∀ (h : jw_H) (x1 : Nat) (x2 : Nat) (x3 : Option Nat) (x4 : Int32) (r : Int32) (h' : jw_H), k23 h x1 x2 x3 x4 = some (r, h') → jw_E 21 (uL_law Ls xs) hi 23 [some (.retAddr 0), some (.ref x1), some (.ref x2), some (va_rf x3), some (.int x4), none, none] [] h (.inl (some (.int r))) h') {h : jw_H} {x1 : Nat} {x2 : Nat} {x3 : Option Nat} {x4 : Int32} {r : Int32} {h' : jw_H} (hq : g_L_law_b1595 Ls xs k23 h x1 x2 x3 x4 = some (r, h')) : jw_E 21 (uL_law Ls xs) hi 1595 [some (.retAddr 0), some (.ref x1), some (.ref x2), some (va_rf x3), some (.int x4), none, none] [] h (.inl (some (.int r))) h' := by
  unfold g_L_law_b1595 at hq
  refine jw_aload_n dL_law_1595 (o := (some x1)) rfl ?_
  refine jw_aload_nS dL_law_1596 rfl ?_
  refine jw_iload dL_law_1597 rfl ?_
  refine jw_iconst dL_law_1599 (v := (1 : Int32)) (by decide) ?_
  refine jw_iadd dL_law_1600 ?_
  obtain ⟨v1, ev1, hq⟩ := Option.bind_eq_some_iff.mp hq
  refine jw_sld (xs0 := xs) rfl dL_law_1601 ev1 ?_
  rcases jw_if hq with ⟨c2, hq⟩ | ⟨c2, hq⟩
  · refine jw_if_eq_t (tgt := 1609) dL_law_1602 (by decide) c2 ?_
    refine jw_iconst dL_law_1609 (v := (0 : Int32)) (by decide) ?_
    exact l_L_law_b1610 hk23 hq
  · refine jw_if_eq_f (tgt := 1609) dL_law_1602 (by decide) c2 ?_
    refine jw_iconst dL_law_1605 (v := (1 : Int32)) (by decide) ?_
    refine jw_goto (tgt := 1610) dL_law_1606 (by decide) ?_
    exact l_L_law_b1610 hk23 hq

set_option maxRecDepth 100000 in
set_option maxHeartbeats 4000000 in
theorem l_L_law_b1720 {Ls : Nat} {xs : Nat → Int32} {hi : jw_H} {k23 : jw_H → Nat → Nat → Option Nat → Int32 → Option (Int32 × jw_H)} (hk23 : ∀ (h : jw_H) (x1 : Nat) (x2 : Nat) (x3 : Option Nat) (x4 : Int32) (r : Int32) (h' : jw_H), k23 h x1 x2 x3 x4 = some (r, h') → jw_E 21 (uL_law Ls xs) hi 23 [some (.retAddr 0), some (.ref x1), some (.ref x2), some (va_rf x3), some (.int x4), none, none] [] h (.inl (some (.int r))) h') {h : jw_H} {x1 : Nat} {x2 : Nat} {x3 : Option Nat} {x4 : Int32} {r : Int32} {h' : jw_H} (hq : g_L_law_b1720 Ls xs k23 h x1 x2 x3 x4 = some (r, h')) : jw_E 21 (uL_law Ls xs) hi 1720 [some (.retAddr 0), some (.ref x1), some (.ref x2), some (va_rf x3), some (.int x4), none, none] [] h (.inl (some (.int r))) h' := by
  unfold g_L_law_b1720 at hq
  refine jw_goto (tgt := 1916) dL_law_1720 (by decide) ?_
  exact l_L_law_b1916 hk23 hq

set_option maxRecDepth 100000 in
set_option maxHeartbeats 4000000 in
theorem l_L_law_b1667 {Ls : Nat} {xs : Nat → Int32} {hi : jw_H} {k23 : jw_H → Nat → Nat → Option Nat → Int32 → Option (Int32 × jw_H)} (hk23 : ∀ (h : jw_H) (x1 : Nat) (x2 : Nat) (x3 : Option Nat) (x4 : Int32) (r : Int32) (h' : jw_H), k23 h x1 x2 x3 x4 = some (r, h') → jw_E 21 (uL_law Ls xs) hi 23 [some (.retAddr 0), some (.ref x1), some (.ref x2), some (va_rf x3), some (.int x4), none, none] [] h (.inl (some (.int r))) h') {h : jw_H} {x1 : Nat} {x2 : Nat} {x3 : Option Nat} {x4 : Int32} {r : Int32} {h' : jw_H} (hq : g_L_law_b1667 Ls xs k23 h x1 x2 x3 x4 = some (r, h')) : jw_E 21 (uL_law Ls xs) hi 1667 [some (.retAddr 0), some (.ref x1), some (.ref x2), some (va_rf x3), some (.int x4), none, none] [] h (.inl (some (.int r))) h' := by
  unfold g_L_law_b1667 at hq
  refine jw_aload_n dL_law_1667 (o := (some x1)) rfl ?_
  refine jw_aload_nS dL_law_1668 rfl ?_
  refine jw_iload dL_law_1669 rfl ?_
  refine jw_iconst dL_law_1671 (v := (1 : Int32)) (by decide) ?_
  refine jw_iadd dL_law_1672 ?_
  obtain ⟨v1, ev1, hq⟩ := Option.bind_eq_some_iff.mp hq
  refine jw_sld (xs0 := xs) rfl dL_law_1673 ev1 ?_
  refine jw_aload_n dL_law_1674 (o := x3) rfl ?_
  obtain ⟨w3, h2, ew3, hq⟩ := jw_b2_spec hq
  refine jw_callSW (As := [va_rf (some x1), .int v1, va_rf x3]) (S := []) (v := some (.int w3)) dL_law_1675 mw_L_findStart st_L_findStart lw_L_222 (c_L_findStart ew3) rfl (by decide) (Nat.le_of_ble_eq_true rfl) rfl ?_
  refine jw_istore (L' := [some (.retAddr 0), some (.ref x1), some (.ref x2), some (va_rf x3), some (.int x4), some (.int w3), none]) dL_law_1678 (Nat.le_of_ble_eq_true rfl) rfl ?_
  refine jw_aload_n dL_law_1680 (o := (some x2)) rfl ?_
  refine jw_aload_nS dL_law_1681 rfl ?_
  refine jw_iload dL_law_1682 rfl ?_
  refine jw_iconst dL_law_1684 (v := (1 : Int32)) (by decide) ?_
  refine jw_iadd dL_law_1685 ?_
  obtain ⟨v4, ev4, hq⟩ := Option.bind_eq_some_iff.mp hq
  refine jw_sld (xs0 := xs) rfl dL_law_1686 ev4 ?_
  obtain ⟨a5, ea5, hq⟩ := Option.bind_eq_some_iff.mp hq
  obtain ⟨eoa5, eta5⟩ := jw_rc_spec ea5
  obtain ⟨w7, h6, ew7, hq⟩ := jw_b2_spec hq
  refine jw_callV (As := [.int v4]) (S := []) (a := a5) (v := some (.int w7)) dL_law_1687 mt_X12_findStart in_X12_findStart se_X12_findStart lk_L_224 (c_X12_findStart ew7) eta5 (by decide) rfl rfl (by decide) (Nat.le_of_ble_eq_true rfl) (by cases eoa5; rfl) ?_
  refine jw_istore (L' := [some (.retAddr 0), some (.ref x1), some (.ref x2), some (va_rf x3), some (.int x4), some (.int w3), some (.int w7)]) dL_law_1690 (Nat.le_of_ble_eq_true rfl) rfl ?_
  refine jw_aload_n dL_law_1692 (o := (some x2)) rfl ?_
  obtain ⟨a8, ea8, hq⟩ := Option.bind_eq_some_iff.mp hq
  obtain ⟨eoa8, eta8⟩ := jw_rc_spec ea8
  obtain ⟨w10, h9, ew10, hq⟩ := jw_b2_spec hq
  refine jw_callV (As := []) (S := []) (a := a8) (v := some (.int w10)) dL_law_1693 mt_X12_thrown in_X12_thrown se_X12_thrown lk_L_108 (c_X12_thrown ew10) eta8 (by decide) rfl rfl (by decide) (Nat.le_of_ble_eq_true rfl) (by cases eoa8; rfl) ?_
  refine jw_iload dL_law_1696 rfl ?_
  rcases jw_if hq with ⟨c11, hq⟩ | ⟨c11, hq⟩
  · refine jw_icmp_eq_t (tgt := 1703) dL_law_1698 (by decide) c11 ?_
    refine jw_iload dL_law_1703 rfl ?_
    rcases jw_if hq with ⟨c12, hq⟩ | ⟨c12, hq⟩
    · refine jw_if_ne_f (tgt := 1720) dL_law_1705 (by decide) c12 ?_
      refine jw_aload_n dL_law_1708 (o := x3) rfl ?_
      refine jw_iconst dL_law_1709 (v := (0 : Int32)) (by decide) ?_
      obtain ⟨v13, ev13, hq⟩ := Option.bind_eq_some_iff.mp hq
      refine jw_lald (o := x3) dL_law_1710 ev13 ?_
      refine jw_iload dL_law_1711 rfl ?_
      refine jw_i2l dL_law_1713 ?_
      refine jw_lcmp dL_law_1714 ?_
      rcases jw_if hq with ⟨c14, hq⟩ | ⟨c14, hq⟩
      · refine jw_if_eq_t (tgt := 1720) dL_law_1715 (by decide) c14 ?_
        refine jw_forget [true, true, true, true, true, false, false] (L' := [some (.retAddr 0), some (.ref x1), some (.ref x2), some (va_rf x3), some (.int x4), none, none]) rfl ?_
        exact l_L_law_b1720 hk23 hq
      · refine jw_if_eq_f (tgt := 1720) dL_law_1715 (by decide) c14 ?_
        refine jw_iconst dL_law_1718 (v := (0 : Int32)) (by decide) ?_
        cases hq
        exact jw_iret (ty := .boolean) dL_law_1719 rfl rfl
    · refine jw_if_ne_t (tgt := 1720) dL_law_1705 (by decide) c12 ?_
      refine jw_forget [true, true, true, true, true, false, false] (L' := [some (.retAddr 0), some (.ref x1), some (.ref x2), some (va_rf x3), some (.int x4), none, none]) rfl ?_
      exact l_L_law_b1720 hk23 hq
  · refine jw_icmp_eq_f (tgt := 1703) dL_law_1698 (by decide) c11 ?_
    refine jw_iconst dL_law_1701 (v := (0 : Int32)) (by decide) ?_
    cases hq
    exact jw_iret (ty := .boolean) dL_law_1702 rfl rfl

set_option maxRecDepth 100000 in
set_option maxHeartbeats 4000000 in
theorem l_L_law_b1776 {Ls : Nat} {xs : Nat → Int32} {hi : jw_H} {k23 : jw_H → Nat → Nat → Option Nat → Int32 → Option (Int32 × jw_H)} (hk23 : ∀ (h : jw_H) (x1 : Nat) (x2 : Nat) (x3 : Option Nat) (x4 : Int32) (r : Int32) (h' : jw_H), k23 h x1 x2 x3 x4 = some (r, h') → jw_E 21 (uL_law Ls xs) hi 23 [some (.retAddr 0), some (.ref x1), some (.ref x2), some (va_rf x3), some (.int x4), none, none] [] h (.inl (some (.int r))) h') {h : jw_H} {x1 : Nat} {x2 : Nat} {x3 : Option Nat} {x4 : Int32} {r : Int32} {h' : jw_H} (hq : g_L_law_b1776 Ls xs k23 h x1 x2 x3 x4 = some (r, h')) : jw_E 21 (uL_law Ls xs) hi 1776 [some (.retAddr 0), some (.ref x1), some (.ref x2), some (va_rf x3), some (.int x4), none, none] [] h (.inl (some (.int r))) h' := by
  unfold g_L_law_b1776 at hq
  refine jw_goto (tgt := 1916) dL_law_1776 (by decide) ?_
  exact l_L_law_b1916 hk23 hq

set_option maxRecDepth 100000 in
set_option maxHeartbeats 4000000 in
theorem l_L_law_b1723 {Ls : Nat} {xs : Nat → Int32} {hi : jw_H} {k23 : jw_H → Nat → Nat → Option Nat → Int32 → Option (Int32 × jw_H)} (hk23 : ∀ (h : jw_H) (x1 : Nat) (x2 : Nat) (x3 : Option Nat) (x4 : Int32) (r : Int32) (h' : jw_H), k23 h x1 x2 x3 x4 = some (r, h') → jw_E 21 (uL_law Ls xs) hi 23 [some (.retAddr 0), some (.ref x1), some (.ref x2), some (va_rf x3), some (.int x4), none, none] [] h (.inl (some (.int r))) h') {h : jw_H} {x1 : Nat} {x2 : Nat} {x3 : Option Nat} {x4 : Int32} {r : Int32} {h' : jw_H} (hq : g_L_law_b1723 Ls xs k23 h x1 x2 x3 x4 = some (r, h')) : jw_E 21 (uL_law Ls xs) hi 1723 [some (.retAddr 0), some (.ref x1), some (.ref x2), some (va_rf x3), some (.int x4), none, none] [] h (.inl (some (.int r))) h' := by
  unfold g_L_law_b1723 at hq
  refine jw_aload_n dL_law_1723 (o := (some x1)) rfl ?_
  refine jw_aload_nS dL_law_1724 rfl ?_
  refine jw_iload dL_law_1725 rfl ?_
  refine jw_iconst dL_law_1727 (v := (1 : Int32)) (by decide) ?_
  refine jw_iadd dL_law_1728 ?_
  obtain ⟨v1, ev1, hq⟩ := Option.bind_eq_some_iff.mp hq
  refine jw_sld (xs0 := xs) rfl dL_law_1729 ev1 ?_
  refine jw_aload_n dL_law_1730 (o := x3) rfl ?_
  obtain ⟨w3, h2, ew3, hq⟩ := jw_b2_spec hq
  refine jw_callSW (As := [va_rf (some x1), .int v1, va_rf x3]) (S := []) (v := some (.int w3)) dL_law_1731 mw_L_findEnd st_L_findEnd lw_L_225 (c_L_findEnd ew3) rfl (by decide) (Nat.le_of_ble_eq_true rfl) rfl ?_
  refine jw_istore (L' := [some (.retAddr 0), some (.ref x1), some (.ref x2), some (va_rf x3), some (.int x4), some (.int w3), none]) dL_law_1734 (Nat.le_of_ble_eq_true rfl) rfl ?_
  refine jw_aload_n dL_law_1736 (o := (some x2)) rfl ?_
  refine jw_aload_nS dL_law_1737 rfl ?_
  refine jw_iload dL_law_1738 rfl ?_
  refine jw_iconst dL_law_1740 (v := (1 : Int32)) (by decide) ?_
  refine jw_iadd dL_law_1741 ?_
  obtain ⟨v4, ev4, hq⟩ := Option.bind_eq_some_iff.mp hq
  refine jw_sld (xs0 := xs) rfl dL_law_1742 ev4 ?_
  obtain ⟨a5, ea5, hq⟩ := Option.bind_eq_some_iff.mp hq
  obtain ⟨eoa5, eta5⟩ := jw_rc_spec ea5
  obtain ⟨w7, h6, ew7, hq⟩ := jw_b2_spec hq
  refine jw_callV (As := [.int v4]) (S := []) (a := a5) (v := some (.int w7)) dL_law_1743 mt_X12_findEnd in_X12_findEnd se_X12_findEnd lk_L_227 (c_X12_findEnd ew7) eta5 (by decide) rfl rfl (by decide) (Nat.le_of_ble_eq_true rfl) (by cases eoa5; rfl) ?_
  refine jw_istore (L' := [some (.retAddr 0), some (.ref x1), some (.ref x2), some (va_rf x3), some (.int x4), some (.int w3), some (.int w7)]) dL_law_1746 (Nat.le_of_ble_eq_true rfl) rfl ?_
  refine jw_aload_n dL_law_1748 (o := (some x2)) rfl ?_
  obtain ⟨a8, ea8, hq⟩ := Option.bind_eq_some_iff.mp hq
  obtain ⟨eoa8, eta8⟩ := jw_rc_spec ea8
  obtain ⟨w10, h9, ew10, hq⟩ := jw_b2_spec hq
  refine jw_callV (As := []) (S := []) (a := a8) (v := some (.int w10)) dL_law_1749 mt_X12_thrown in_X12_thrown se_X12_thrown lk_L_108 (c_X12_thrown ew10) eta8 (by decide) rfl rfl (by decide) (Nat.le_of_ble_eq_true rfl) (by cases eoa8; rfl) ?_
  refine jw_iload dL_law_1752 rfl ?_
  rcases jw_if hq with ⟨c11, hq⟩ | ⟨c11, hq⟩
  · refine jw_icmp_eq_t (tgt := 1759) dL_law_1754 (by decide) c11 ?_
    refine jw_iload dL_law_1759 rfl ?_
    rcases jw_if hq with ⟨c12, hq⟩ | ⟨c12, hq⟩
    · refine jw_if_ne_f (tgt := 1776) dL_law_1761 (by decide) c12 ?_
      refine jw_aload_n dL_law_1764 (o := x3) rfl ?_
      refine jw_iconst dL_law_1765 (v := (0 : Int32)) (by decide) ?_
      obtain ⟨v13, ev13, hq⟩ := Option.bind_eq_some_iff.mp hq
      refine jw_lald (o := x3) dL_law_1766 ev13 ?_
      refine jw_iload dL_law_1767 rfl ?_
      refine jw_i2l dL_law_1769 ?_
      refine jw_lcmp dL_law_1770 ?_
      rcases jw_if hq with ⟨c14, hq⟩ | ⟨c14, hq⟩
      · refine jw_if_eq_t (tgt := 1776) dL_law_1771 (by decide) c14 ?_
        refine jw_forget [true, true, true, true, true, false, false] (L' := [some (.retAddr 0), some (.ref x1), some (.ref x2), some (va_rf x3), some (.int x4), none, none]) rfl ?_
        exact l_L_law_b1776 hk23 hq
      · refine jw_if_eq_f (tgt := 1776) dL_law_1771 (by decide) c14 ?_
        refine jw_iconst dL_law_1774 (v := (0 : Int32)) (by decide) ?_
        cases hq
        exact jw_iret (ty := .boolean) dL_law_1775 rfl rfl
    · refine jw_if_ne_t (tgt := 1776) dL_law_1761 (by decide) c12 ?_
      refine jw_forget [true, true, true, true, true, false, false] (L' := [some (.retAddr 0), some (.ref x1), some (.ref x2), some (va_rf x3), some (.int x4), none, none]) rfl ?_
      exact l_L_law_b1776 hk23 hq
  · refine jw_icmp_eq_f (tgt := 1759) dL_law_1754 (by decide) c11 ?_
    refine jw_iconst dL_law_1757 (v := (0 : Int32)) (by decide) ?_
    cases hq
    exact jw_iret (ty := .boolean) dL_law_1758 rfl rfl

set_option maxRecDepth 100000 in
set_option maxHeartbeats 4000000 in
theorem l_L_law_b1832 {Ls : Nat} {xs : Nat → Int32} {hi : jw_H} {k23 : jw_H → Nat → Nat → Option Nat → Int32 → Option (Int32 × jw_H)} (hk23 : ∀ (h : jw_H) (x1 : Nat) (x2 : Nat) (x3 : Option Nat) (x4 : Int32) (r : Int32) (h' : jw_H), k23 h x1 x2 x3 x4 = some (r, h') → jw_E 21 (uL_law Ls xs) hi 23 [some (.retAddr 0), some (.ref x1), some (.ref x2), some (va_rf x3), some (.int x4), none, none] [] h (.inl (some (.int r))) h') {h : jw_H} {x1 : Nat} {x2 : Nat} {x3 : Option Nat} {x4 : Int32} {r : Int32} {h' : jw_H} (hq : g_L_law_b1832 Ls xs k23 h x1 x2 x3 x4 = some (r, h')) : jw_E 21 (uL_law Ls xs) hi 1832 [some (.retAddr 0), some (.ref x1), some (.ref x2), some (va_rf x3), some (.int x4), none, none] [] h (.inl (some (.int r))) h' := by
  unfold g_L_law_b1832 at hq
  refine jw_goto (tgt := 1916) dL_law_1832 (by decide) ?_
  exact l_L_law_b1916 hk23 hq

set_option maxRecDepth 100000 in
set_option maxHeartbeats 4000000 in
theorem l_L_law_b1779 {Ls : Nat} {xs : Nat → Int32} {hi : jw_H} {k23 : jw_H → Nat → Nat → Option Nat → Int32 → Option (Int32 × jw_H)} (hk23 : ∀ (h : jw_H) (x1 : Nat) (x2 : Nat) (x3 : Option Nat) (x4 : Int32) (r : Int32) (h' : jw_H), k23 h x1 x2 x3 x4 = some (r, h') → jw_E 21 (uL_law Ls xs) hi 23 [some (.retAddr 0), some (.ref x1), some (.ref x2), some (va_rf x3), some (.int x4), none, none] [] h (.inl (some (.int r))) h') {h : jw_H} {x1 : Nat} {x2 : Nat} {x3 : Option Nat} {x4 : Int32} {r : Int32} {h' : jw_H} (hq : g_L_law_b1779 Ls xs k23 h x1 x2 x3 x4 = some (r, h')) : jw_E 21 (uL_law Ls xs) hi 1779 [some (.retAddr 0), some (.ref x1), some (.ref x2), some (va_rf x3), some (.int x4), none, none] [] h (.inl (some (.int r))) h' := by
  unfold g_L_law_b1779 at hq
  refine jw_aload_n dL_law_1779 (o := (some x1)) rfl ?_
  refine jw_aload_nS dL_law_1780 rfl ?_
  refine jw_iload dL_law_1781 rfl ?_
  refine jw_iconst dL_law_1783 (v := (1 : Int32)) (by decide) ?_
  refine jw_iadd dL_law_1784 ?_
  obtain ⟨v1, ev1, hq⟩ := Option.bind_eq_some_iff.mp hq
  refine jw_sld (xs0 := xs) rfl dL_law_1785 ev1 ?_
  refine jw_aload_n dL_law_1786 (o := x3) rfl ?_
  obtain ⟨w3, h2, ew3, hq⟩ := jw_b2_spec hq
  refine jw_callSW (As := [va_rf (some x1), .int v1, va_rf x3]) (S := []) (v := some (.int w3)) dL_law_1787 mw_L_differ st_L_differ lw_L_228 (c_L_differ ew3) rfl (by decide) (Nat.le_of_ble_eq_true rfl) rfl ?_
  refine jw_istore (L' := [some (.retAddr 0), some (.ref x1), some (.ref x2), some (va_rf x3), some (.int x4), some (.int w3), none]) dL_law_1790 (Nat.le_of_ble_eq_true rfl) rfl ?_
  refine jw_aload_n dL_law_1792 (o := (some x2)) rfl ?_
  refine jw_aload_nS dL_law_1793 rfl ?_
  refine jw_iload dL_law_1794 rfl ?_
  refine jw_iconst dL_law_1796 (v := (1 : Int32)) (by decide) ?_
  refine jw_iadd dL_law_1797 ?_
  obtain ⟨v4, ev4, hq⟩ := Option.bind_eq_some_iff.mp hq
  refine jw_sld (xs0 := xs) rfl dL_law_1798 ev4 ?_
  obtain ⟨a5, ea5, hq⟩ := Option.bind_eq_some_iff.mp hq
  obtain ⟨eoa5, eta5⟩ := jw_rc_spec ea5
  obtain ⟨w7, h6, ew7, hq⟩ := jw_b2_spec hq
  refine jw_callV (As := [.int v4]) (S := []) (a := a5) (v := some (.int w7)) dL_law_1799 mt_X12_differ in_X12_differ se_X12_differ lk_L_230 (c_X12_differ ew7) eta5 (by decide) rfl rfl (by decide) (Nat.le_of_ble_eq_true rfl) (by cases eoa5; rfl) ?_
  refine jw_istore (L' := [some (.retAddr 0), some (.ref x1), some (.ref x2), some (va_rf x3), some (.int x4), some (.int w3), some (.int w7)]) dL_law_1802 (Nat.le_of_ble_eq_true rfl) rfl ?_
  refine jw_aload_n dL_law_1804 (o := (some x2)) rfl ?_
  obtain ⟨a8, ea8, hq⟩ := Option.bind_eq_some_iff.mp hq
  obtain ⟨eoa8, eta8⟩ := jw_rc_spec ea8
  obtain ⟨w10, h9, ew10, hq⟩ := jw_b2_spec hq
  refine jw_callV (As := []) (S := []) (a := a8) (v := some (.int w10)) dL_law_1805 mt_X12_thrown in_X12_thrown se_X12_thrown lk_L_108 (c_X12_thrown ew10) eta8 (by decide) rfl rfl (by decide) (Nat.le_of_ble_eq_true rfl) (by cases eoa8; rfl) ?_
  refine jw_iload dL_law_1808 rfl ?_
  rcases jw_if hq with ⟨c11, hq⟩ | ⟨c11, hq⟩
  · refine jw_icmp_eq_t (tgt := 1815) dL_law_1810 (by decide) c11 ?_
    refine jw_iload dL_law_1815 rfl ?_
    rcases jw_if hq with ⟨c12, hq⟩ | ⟨c12, hq⟩
    · refine jw_if_ne_f (tgt := 1832) dL_law_1817 (by decide) c12 ?_
      refine jw_aload_n dL_law_1820 (o := x3) rfl ?_
      refine jw_iconst dL_law_1821 (v := (0 : Int32)) (by decide) ?_
      obtain ⟨v13, ev13, hq⟩ := Option.bind_eq_some_iff.mp hq
      refine jw_lald (o := x3) dL_law_1822 ev13 ?_
      refine jw_iload dL_law_1823 rfl ?_
      refine jw_i2l dL_law_1825 ?_
      refine jw_lcmp dL_law_1826 ?_
      rcases jw_if hq with ⟨c14, hq⟩ | ⟨c14, hq⟩
      · refine jw_if_eq_t (tgt := 1832) dL_law_1827 (by decide) c14 ?_
        refine jw_forget [true, true, true, true, true, false, false] (L' := [some (.retAddr 0), some (.ref x1), some (.ref x2), some (va_rf x3), some (.int x4), none, none]) rfl ?_
        exact l_L_law_b1832 hk23 hq
      · refine jw_if_eq_f (tgt := 1832) dL_law_1827 (by decide) c14 ?_
        refine jw_iconst dL_law_1830 (v := (0 : Int32)) (by decide) ?_
        cases hq
        exact jw_iret (ty := .boolean) dL_law_1831 rfl rfl
    · refine jw_if_ne_t (tgt := 1832) dL_law_1817 (by decide) c12 ?_
      refine jw_forget [true, true, true, true, true, false, false] (L' := [some (.retAddr 0), some (.ref x1), some (.ref x2), some (va_rf x3), some (.int x4), none, none]) rfl ?_
      exact l_L_law_b1832 hk23 hq
  · refine jw_icmp_eq_f (tgt := 1815) dL_law_1810 (by decide) c11 ?_
    refine jw_iconst dL_law_1813 (v := (0 : Int32)) (by decide) ?_
    cases hq
    exact jw_iret (ty := .boolean) dL_law_1814 rfl rfl

set_option maxRecDepth 100000 in
set_option maxHeartbeats 4000000 in
theorem l_L_law_b1900 {Ls : Nat} {xs : Nat → Int32} {hi : jw_H} {k23 : jw_H → Nat → Nat → Option Nat → Int32 → Option (Int32 × jw_H)} (hk23 : ∀ (h : jw_H) (x1 : Nat) (x2 : Nat) (x3 : Option Nat) (x4 : Int32) (r : Int32) (h' : jw_H), k23 h x1 x2 x3 x4 = some (r, h') → jw_E 21 (uL_law Ls xs) hi 23 [some (.retAddr 0), some (.ref x1), some (.ref x2), some (va_rf x3), some (.int x4), none, none] [] h (.inl (some (.int r))) h') {h : jw_H} {x1 : Nat} {x2 : Nat} {x3 : Option Nat} {x4 : Int32} {r : Int32} {h' : jw_H} (hq : g_L_law_b1900 Ls xs k23 h x1 x2 x3 x4 = some (r, h')) : jw_E 21 (uL_law Ls xs) hi 1900 [some (.retAddr 0), some (.ref x1), some (.ref x2), some (va_rf x3), some (.int x4), none, none] [] h (.inl (some (.int r))) h' := by
  unfold g_L_law_b1900 at hq
  refine jw_goto (tgt := 1916) dL_law_1900 (by decide) ?_
  exact l_L_law_b1916 hk23 hq

set_option maxRecDepth 100000 in
set_option maxHeartbeats 4000000 in
theorem l_L_law_b1835 {Ls : Nat} {xs : Nat → Int32} {hi : jw_H} {k23 : jw_H → Nat → Nat → Option Nat → Int32 → Option (Int32 × jw_H)} (hk23 : ∀ (h : jw_H) (x1 : Nat) (x2 : Nat) (x3 : Option Nat) (x4 : Int32) (r : Int32) (h' : jw_H), k23 h x1 x2 x3 x4 = some (r, h') → jw_E 21 (uL_law Ls xs) hi 23 [some (.retAddr 0), some (.ref x1), some (.ref x2), some (va_rf x3), some (.int x4), none, none] [] h (.inl (some (.int r))) h') {h : jw_H} {x1 : Nat} {x2 : Nat} {x3 : Option Nat} {x4 : Int32} {r : Int32} {h' : jw_H} (hq : g_L_law_b1835 Ls xs k23 h x1 x2 x3 x4 = some (r, h')) : jw_E 21 (uL_law Ls xs) hi 1835 [some (.retAddr 0), some (.ref x1), some (.ref x2), some (va_rf x3), some (.int x4), none, none] [] h (.inl (some (.int r))) h' := by
  unfold g_L_law_b1835 at hq
  refine jw_aload_n dL_law_1835 (o := (some x1)) rfl ?_
  refine jw_aload_nS dL_law_1836 rfl ?_
  refine jw_iload dL_law_1837 rfl ?_
  refine jw_iconst dL_law_1839 (v := (1 : Int32)) (by decide) ?_
  refine jw_iadd dL_law_1840 ?_
  obtain ⟨v1, ev1, hq⟩ := Option.bind_eq_some_iff.mp hq
  refine jw_sld (xs0 := xs) rfl dL_law_1841 ev1 ?_
  refine jw_aload_nS dL_law_1842 rfl ?_
  refine jw_iload dL_law_1843 rfl ?_
  refine jw_iconst dL_law_1845 (v := (2 : Int32)) (by decide) ?_
  refine jw_iadd dL_law_1846 ?_
  obtain ⟨v2, ev2, hq⟩ := Option.bind_eq_some_iff.mp hq
  refine jw_sld (xs0 := xs) rfl dL_law_1847 ev2 ?_
  refine jw_aload_n dL_law_1848 (o := x3) rfl ?_
  obtain ⟨w4, h3, ew4, hq⟩ := jw_b2_spec hq
  refine jw_callSW (As := [va_rf (some x1), .int v1, .int v2, va_rf x3]) (S := []) (v := some (.int w4)) dL_law_1849 mw_L_pairOf st_L_pairOf lw_L_231 (c_L_pairOf ew4) rfl (by decide) (Nat.le_of_ble_eq_true rfl) rfl ?_
  refine jw_istore (L' := [some (.retAddr 0), some (.ref x1), some (.ref x2), some (va_rf x3), some (.int x4), some (.int w4), none]) dL_law_1852 (Nat.le_of_ble_eq_true rfl) rfl ?_
  refine jw_aload_n dL_law_1854 (o := (some x2)) rfl ?_
  refine jw_aload_nS dL_law_1855 rfl ?_
  refine jw_iload dL_law_1856 rfl ?_
  refine jw_iconst dL_law_1858 (v := (1 : Int32)) (by decide) ?_
  refine jw_iadd dL_law_1859 ?_
  obtain ⟨v5, ev5, hq⟩ := Option.bind_eq_some_iff.mp hq
  refine jw_sld (xs0 := xs) rfl dL_law_1860 ev5 ?_
  refine jw_aload_nS dL_law_1861 rfl ?_
  refine jw_iload dL_law_1862 rfl ?_
  refine jw_iconst dL_law_1864 (v := (2 : Int32)) (by decide) ?_
  refine jw_iadd dL_law_1865 ?_
  obtain ⟨v6, ev6, hq⟩ := Option.bind_eq_some_iff.mp hq
  refine jw_sld (xs0 := xs) rfl dL_law_1866 ev6 ?_
  obtain ⟨a7, ea7, hq⟩ := Option.bind_eq_some_iff.mp hq
  obtain ⟨eoa7, eta7⟩ := jw_rc_spec ea7
  obtain ⟨w9, h8, ew9, hq⟩ := jw_b2_spec hq
  refine jw_callV (As := [.int v5, .int v6]) (S := []) (a := a7) (v := some (.int w9)) dL_law_1867 mt_X12_pairOf in_X12_pairOf se_X12_pairOf lk_L_233 (c_X12_pairOf ew9) eta7 (by decide) rfl rfl (by decide) (Nat.le_of_ble_eq_true rfl) (by cases eoa7; rfl) ?_
  refine jw_istore (L' := [some (.retAddr 0), some (.ref x1), some (.ref x2), some (va_rf x3), some (.int x4), some (.int w4), some (.int w9)]) dL_law_1870 (Nat.le_of_ble_eq_true rfl) rfl ?_
  refine jw_aload_n dL_law_1872 (o := (some x2)) rfl ?_
  obtain ⟨a10, ea10, hq⟩ := Option.bind_eq_some_iff.mp hq
  obtain ⟨eoa10, eta10⟩ := jw_rc_spec ea10
  obtain ⟨w12, h11, ew12, hq⟩ := jw_b2_spec hq
  refine jw_callV (As := []) (S := []) (a := a10) (v := some (.int w12)) dL_law_1873 mt_X12_thrown in_X12_thrown se_X12_thrown lk_L_108 (c_X12_thrown ew12) eta10 (by decide) rfl rfl (by decide) (Nat.le_of_ble_eq_true rfl) (by cases eoa10; rfl) ?_
  refine jw_iload dL_law_1876 rfl ?_
  rcases jw_if hq with ⟨c13, hq⟩ | ⟨c13, hq⟩
  · refine jw_icmp_eq_t (tgt := 1883) dL_law_1878 (by decide) c13 ?_
    refine jw_iload dL_law_1883 rfl ?_
    rcases jw_if hq with ⟨c14, hq⟩ | ⟨c14, hq⟩
    · refine jw_if_ne_f (tgt := 1900) dL_law_1885 (by decide) c14 ?_
      refine jw_aload_n dL_law_1888 (o := x3) rfl ?_
      refine jw_iconst dL_law_1889 (v := (0 : Int32)) (by decide) ?_
      obtain ⟨v15, ev15, hq⟩ := Option.bind_eq_some_iff.mp hq
      refine jw_lald (o := x3) dL_law_1890 ev15 ?_
      refine jw_iload dL_law_1891 rfl ?_
      refine jw_i2l dL_law_1893 ?_
      refine jw_lcmp dL_law_1894 ?_
      rcases jw_if hq with ⟨c16, hq⟩ | ⟨c16, hq⟩
      · refine jw_if_eq_t (tgt := 1900) dL_law_1895 (by decide) c16 ?_
        refine jw_forget [true, true, true, true, true, false, false] (L' := [some (.retAddr 0), some (.ref x1), some (.ref x2), some (va_rf x3), some (.int x4), none, none]) rfl ?_
        exact l_L_law_b1900 hk23 hq
      · refine jw_if_eq_f (tgt := 1900) dL_law_1895 (by decide) c16 ?_
        refine jw_iconst dL_law_1898 (v := (0 : Int32)) (by decide) ?_
        cases hq
        exact jw_iret (ty := .boolean) dL_law_1899 rfl rfl
    · refine jw_if_ne_t (tgt := 1900) dL_law_1885 (by decide) c14 ?_
      refine jw_forget [true, true, true, true, true, false, false] (L' := [some (.retAddr 0), some (.ref x1), some (.ref x2), some (va_rf x3), some (.int x4), none, none]) rfl ?_
      exact l_L_law_b1900 hk23 hq
  · refine jw_icmp_eq_f (tgt := 1883) dL_law_1878 (by decide) c13 ?_
    refine jw_iconst dL_law_1881 (v := (0 : Int32)) (by decide) ?_
    cases hq
    exact jw_iret (ty := .boolean) dL_law_1882 rfl rfl

set_option maxRecDepth 100000 in
set_option maxHeartbeats 4000000 in
theorem l_L_law_b1903 {Ls : Nat} {xs : Nat → Int32} {hi : jw_H} {k23 : jw_H → Nat → Nat → Option Nat → Int32 → Option (Int32 × jw_H)} (hk23 : ∀ (h : jw_H) (x1 : Nat) (x2 : Nat) (x3 : Option Nat) (x4 : Int32) (r : Int32) (h' : jw_H), k23 h x1 x2 x3 x4 = some (r, h') → jw_E 21 (uL_law Ls xs) hi 23 [some (.retAddr 0), some (.ref x1), some (.ref x2), some (va_rf x3), some (.int x4), none, none] [] h (.inl (some (.int r))) h') {h : jw_H} {x1 : Nat} {x2 : Nat} {x3 : Option Nat} {x4 : Int32} {r : Int32} {h' : jw_H} (hq : g_L_law_b1903 Ls xs k23 h x1 x2 x3 x4 = some (r, h')) : jw_E 21 (uL_law Ls xs) hi 1903 [some (.retAddr 0), some (.ref x1), some (.ref x2), some (va_rf x3), some (.int x4), none, none] [] h (.inl (some (.int r))) h' := by
  unfold g_L_law_b1903 at hq
  refine jw_aload_n dL_law_1903 (o := (some x1)) rfl ?_
  obtain ⟨a1, ea1, hq⟩ := Option.bind_eq_some_iff.mp hq
  obtain ⟨eoa1, eta1⟩ := jw_rc_spec ea1
  obtain ⟨w3, h2, ew3, hq⟩ := jw_b2_spec hq
  refine jw_callV (As := []) (S := []) (a := a1) (v := some (.int w3)) dL_law_1904 mt_X11_isSound in_X11_isSound se_X11_isSound lk_L_234 (c_X11_isSound ew3) eta1 (by decide) rfl rfl (by decide) (Nat.le_of_ble_eq_true rfl) (by cases eoa1; rfl) ?_
  refine jw_aload_n dL_law_1907 (o := (some x2)) rfl ?_
  obtain ⟨a4, ea4, hq⟩ := Option.bind_eq_some_iff.mp hq
  obtain ⟨eoa4, eta4⟩ := jw_rc_spec ea4
  obtain ⟨w6, h5, ew6, hq⟩ := jw_b2_spec hq
  refine jw_callV (As := []) (S := [.int w3]) (a := a4) (v := some (.int w6)) dL_law_1908 mt_X12_isSound in_X12_isSound se_X12_isSound lk_L_238 (c_X12_isSound ew6) eta4 (by decide) rfl rfl (by decide) (Nat.le_of_ble_eq_true rfl) (by cases eoa4; rfl) ?_
  rcases jw_if hq with ⟨c7, hq⟩ | ⟨c7, hq⟩
  · refine jw_icmp_eq_t (tgt := 1916) dL_law_1911 (by decide) c7 ?_
    exact l_L_law_b1916 hk23 hq
  · refine jw_icmp_eq_f (tgt := 1916) dL_law_1911 (by decide) c7 ?_
    refine jw_iconst dL_law_1914 (v := (0 : Int32)) (by decide) ?_
    cases hq
    exact jw_iret (ty := .boolean) dL_law_1915 rfl rfl

set_option maxRecDepth 100000 in
set_option maxHeartbeats 4000000 in
theorem l_L_law_b23g {Ls : Nat} {xs : Nat → Int32} {hi : jw_H} {k23 : jw_H → Nat → Nat → Option Nat → Int32 → Option (Int32 × jw_H)} (hk23 : ∀ (h : jw_H) (x1 : Nat) (x2 : Nat) (x3 : Option Nat) (x4 : Int32) (r : Int32) (h' : jw_H), k23 h x1 x2 x3 x4 = some (r, h') → jw_E 21 (uL_law Ls xs) hi 23 [some (.retAddr 0), some (.ref x1), some (.ref x2), some (va_rf x3), some (.int x4), none, none] [] h (.inl (some (.int r))) h') {h : jw_H} {x1 : Nat} {x2 : Nat} {x3 : Option Nat} {x4 : Int32} {r : Int32} {h' : jw_H} (hq : g_L_law_b23 Ls xs k23 h x1 x2 x3 x4 = some (r, h')) : jw_E 21 (uL_law Ls xs) hi 23 [some (.retAddr 0), some (.ref x1), some (.ref x2), some (va_rf x3), some (.int x4), none, none] [] h (.inl (some (.int r))) h' := by
  unfold g_L_law_b23 at hq
  refine jw_iload dL_law_23 rfl ?_
  refine jw_aload_nS dL_law_25 rfl ?_
  refine jw_slen (Ls0 := Ls) rfl dL_law_26 ?_
  refine jw_iconst dL_law_27 (v := (4 : Int32)) (by decide) ?_
  refine jw_isub dL_law_28 ?_
  rcases jw_if hq with ⟨c2, hq⟩ | ⟨c2, hq⟩
  · refine jw_icmp_gt_t (tgt := 1922) dL_law_29 (by decide) c2 ?_
    refine jw_iconst dL_law_1922 (v := (1 : Int32)) (by decide) ?_
    cases hq
    exact jw_iret (ty := .boolean) dL_law_1923 rfl rfl
  · refine jw_icmp_gt_f (tgt := 1922) dL_law_29 (by decide) c2 ?_
    refine jw_aload_nS dL_law_32 rfl ?_
    refine jw_iload dL_law_33 rfl ?_
    obtain ⟨v3, ev3, hq⟩ := Option.bind_eq_some_iff.mp hq
    refine jw_sld (xs0 := xs) rfl dL_law_35 ev3 ?_
    refine jw_bipush dL_law_36 (v := (63 : Int32)) (by decide) ?_
    refine jw_iand dL_law_38 ?_
    rcases jw_if hq with ⟨c4, hq⟩ | ⟨c4, hq⟩
    · refine jw_tableIn (tgt := 204) (off := 165) dL_law_39 (by rw [c4]; decide) (by rw [c4]; decide) (by rw [c4]; rfl) (by decide) ?_
      exact l_L_law_b204 hk23 hq
    · rcases jw_if hq with ⟨c5, hq⟩ | ⟨c5, hq⟩
      · refine jw_tableIn (tgt := 260) (off := 221) dL_law_39 (by rw [c5]; decide) (by rw [c5]; decide) (by rw [c5]; rfl) (by decide) ?_
        exact l_L_law_b260 hk23 hq
      · rcases jw_if hq with ⟨c6, hq⟩ | ⟨c6, hq⟩
        · refine jw_tableIn (tgt := 273) (off := 234) dL_law_39 (by rw [c6]; decide) (by rw [c6]; decide) (by rw [c6]; rfl) (by decide) ?_
          exact l_L_law_b273 hk23 hq
        · rcases jw_if hq with ⟨c7, hq⟩ | ⟨c7, hq⟩
          · refine jw_tableIn (tgt := 286) (off := 247) dL_law_39 (by rw [c7]; decide) (by rw [c7]; decide) (by rw [c7]; rfl) (by decide) ?_
            exact l_L_law_b286 hk23 hq
          · rcases jw_if hq with ⟨c8, hq⟩ | ⟨c8, hq⟩
            · refine jw_tableIn (tgt := 299) (off := 260) dL_law_39 (by rw [c8]; decide) (by rw [c8]; decide) (by rw [c8]; rfl) (by decide) ?_
              exact l_L_law_b299 hk23 hq
            · rcases jw_if hq with ⟨c9, hq⟩ | ⟨c9, hq⟩
              · refine jw_tableIn (tgt := 343) (off := 304) dL_law_39 (by rw [c9]; decide) (by rw [c9]; decide) (by rw [c9]; rfl) (by decide) ?_
                exact l_L_law_b343 hk23 hq
              · rcases jw_if hq with ⟨c10, hq⟩ | ⟨c10, hq⟩
                · refine jw_tableIn (tgt := 399) (off := 360) dL_law_39 (by rw [c10]; decide) (by rw [c10]; decide) (by rw [c10]; rfl) (by decide) ?_
                  exact l_L_law_b399 hk23 hq
                · rcases jw_if hq with ⟨c11, hq⟩ | ⟨c11, hq⟩
                  · refine jw_tableIn (tgt := 455) (off := 416) dL_law_39 (by rw [c11]; decide) (by rw [c11]; decide) (by rw [c11]; rfl) (by decide) ?_
                    exact l_L_law_b455 hk23 hq
                  · rcases jw_if hq with ⟨c12, hq⟩ | ⟨c12, hq⟩
                    · refine jw_tableIn (tgt := 511) (off := 472) dL_law_39 (by rw [c12]; decide) (by rw [c12]; decide) (by rw [c12]; rfl) (by decide) ?_
                      exact l_L_law_b511 hk23 hq
                    · rcases jw_if hq with ⟨c13, hq⟩ | ⟨c13, hq⟩
                      · refine jw_tableIn (tgt := 524) (off := 485) dL_law_39 (by rw [c13]; decide) (by rw [c13]; decide) (by rw [c13]; rfl) (by decide) ?_
                        exact l_L_law_b524 hk23 hq
                      · rcases jw_if hq with ⟨c14, hq⟩ | ⟨c14, hq⟩
                        · refine jw_tableIn (tgt := 580) (off := 541) dL_law_39 (by rw [c14]; decide) (by rw [c14]; decide) (by rw [c14]; rfl) (by decide) ?_
                          exact l_L_law_b580 hk23 hq
                        · rcases jw_if hq with ⟨c15, hq⟩ | ⟨c15, hq⟩
                          · refine jw_tableIn (tgt := 648) (off := 609) dL_law_39 (by rw [c15]; decide) (by rw [c15]; decide) (by rw [c15]; rfl) (by decide) ?_
                            exact l_L_law_b648 hk23 hq
                          · rcases jw_if hq with ⟨c16, hq⟩ | ⟨c16, hq⟩
                            · refine jw_tableIn (tgt := 692) (off := 653) dL_law_39 (by rw [c16]; decide) (by rw [c16]; decide) (by rw [c16]; rfl) (by decide) ?_
                              exact l_L_law_b692 hk23 hq
                            · rcases jw_if hq with ⟨c17, hq⟩ | ⟨c17, hq⟩
                              · refine jw_tableIn (tgt := 736) (off := 697) dL_law_39 (by rw [c17]; decide) (by rw [c17]; decide) (by rw [c17]; rfl) (by decide) ?_
                                exact l_L_law_b736 hk23 hq
                              · rcases jw_if hq with ⟨c18, hq⟩ | ⟨c18, hq⟩
                                · refine jw_tableIn (tgt := 749) (off := 710) dL_law_39 (by rw [c18]; decide) (by rw [c18]; decide) (by rw [c18]; rfl) (by decide) ?_
                                  exact l_L_law_b749 hk23 hq
                                · rcases jw_if hq with ⟨c19, hq⟩ | ⟨c19, hq⟩
                                  · refine jw_tableIn (tgt := 762) (off := 723) dL_law_39 (by rw [c19]; decide) (by rw [c19]; decide) (by rw [c19]; rfl) (by decide) ?_
                                    exact l_L_law_b762 hk23 hq
                                  · rcases jw_if hq with ⟨c20, hq⟩ | ⟨c20, hq⟩
                                    · refine jw_tableIn (tgt := 818) (off := 779) dL_law_39 (by rw [c20]; decide) (by rw [c20]; decide) (by rw [c20]; rfl) (by decide) ?_
                                      exact l_L_law_b818 hk23 hq
                                    · rcases jw_if hq with ⟨c21, hq⟩ | ⟨c21, hq⟩
                                      · refine jw_tableIn (tgt := 886) (off := 847) dL_law_39 (by rw [c21]; decide) (by rw [c21]; decide) (by rw [c21]; rfl) (by decide) ?_
                                        exact l_L_law_b886 hk23 hq
                                      · rcases jw_if hq with ⟨c22, hq⟩ | ⟨c22, hq⟩
                                        · refine jw_tableIn (tgt := 942) (off := 903) dL_law_39 (by rw [c22]; decide) (by rw [c22]; decide) (by rw [c22]; rfl) (by decide) ?_
                                          exact l_L_law_b942 hk23 hq
                                        · rcases jw_if hq with ⟨c23, hq⟩ | ⟨c23, hq⟩
                                          · refine jw_tableIn (tgt := 967) (off := 928) dL_law_39 (by rw [c23]; decide) (by rw [c23]; decide) (by rw [c23]; rfl) (by decide) ?_
                                            exact l_L_law_b967 hk23 hq
                                          · rcases jw_if hq with ⟨c24, hq⟩ | ⟨c24, hq⟩
                                            · refine jw_tableIn (tgt := 980) (off := 941) dL_law_39 (by rw [c24]; decide) (by rw [c24]; decide) (by rw [c24]; rfl) (by decide) ?_
                                              exact l_L_law_b980 hk23 hq
                                            · rcases jw_if hq with ⟨c25, hq⟩ | ⟨c25, hq⟩
                                              · refine jw_tableIn (tgt := 1036) (off := 997) dL_law_39 (by rw [c25]; decide) (by rw [c25]; decide) (by rw [c25]; rfl) (by decide) ?_
                                                exact l_L_law_b1036 hk23 hq
                                              · rcases jw_if hq with ⟨c26, hq⟩ | ⟨c26, hq⟩
                                                · refine jw_tableIn (tgt := 1104) (off := 1065) dL_law_39 (by rw [c26]; decide) (by rw [c26]; decide) (by rw [c26]; rfl) (by decide) ?_
                                                  exact l_L_law_b1104 hk23 hq
                                                · rcases jw_if hq with ⟨c27, hq⟩ | ⟨c27, hq⟩
                                                  · refine jw_tableIn (tgt := 1117) (off := 1078) dL_law_39 (by rw [c27]; decide) (by rw [c27]; decide) (by rw [c27]; rfl) (by decide) ?_
                                                    exact l_L_law_b1117 hk23 hq
                                                  · rcases jw_if hq with ⟨c28, hq⟩ | ⟨c28, hq⟩
                                                    · refine jw_tableIn (tgt := 1173) (off := 1134) dL_law_39 (by rw [c28]; decide) (by rw [c28]; decide) (by rw [c28]; rfl) (by decide) ?_
                                                      exact l_L_law_b1173 hk23 hq
                                                    · rcases jw_if hq with ⟨c29, hq⟩ | ⟨c29, hq⟩
                                                      · refine jw_tableIn (tgt := 1241) (off := 1202) dL_law_39 (by rw [c29]; decide) (by rw [c29]; decide) (by rw [c29]; rfl) (by decide) ?_
                                                        exact l_L_law_b1241 hk23 hq
                                                      · rcases jw_if hq with ⟨c30, hq⟩ | ⟨c30, hq⟩
                                                        · refine jw_tableIn (tgt := 1254) (off := 1215) dL_law_39 (by rw [c30]; decide) (by rw [c30]; decide) (by rw [c30]; rfl) (by decide) ?_
                                                          exact l_L_law_b1254 hk23 hq
                                                        · rcases jw_if hq with ⟨c31, hq⟩ | ⟨c31, hq⟩
                                                          · refine jw_tableIn (tgt := 1310) (off := 1271) dL_law_39 (by rw [c31]; decide) (by rw [c31]; decide) (by rw [c31]; rfl) (by decide) ?_
                                                            exact l_L_law_b1310 hk23 hq
                                                          · rcases jw_if hq with ⟨c32, hq⟩ | ⟨c32, hq⟩
                                                            · refine jw_tableIn (tgt := 1378) (off := 1339) dL_law_39 (by rw [c32]; decide) (by rw [c32]; decide) (by rw [c32]; rfl) (by decide) ?_
                                                              exact l_L_law_b1378 hk23 hq
                                                            · rcases jw_if hq with ⟨c33, hq⟩ | ⟨c33, hq⟩
                                                              · refine jw_tableIn (tgt := 1391) (off := 1352) dL_law_39 (by rw [c33]; decide) (by rw [c33]; decide) (by rw [c33]; rfl) (by decide) ?_
                                                                exact l_L_law_b1391 hk23 hq
                                                              · rcases jw_if hq with ⟨c34, hq⟩ | ⟨c34, hq⟩
                                                                · refine jw_tableIn (tgt := 1447) (off := 1408) dL_law_39 (by rw [c34]; decide) (by rw [c34]; decide) (by rw [c34]; rfl) (by decide) ?_
                                                                  exact l_L_law_b1447 hk23 hq
                                                                · rcases jw_if hq with ⟨c35, hq⟩ | ⟨c35, hq⟩
                                                                  · refine jw_tableIn (tgt := 1515) (off := 1476) dL_law_39 (by rw [c35]; decide) (by rw [c35]; decide) (by rw [c35]; rfl) (by decide) ?_
                                                                    exact l_L_law_b1515 hk23 hq
                                                                  · rcases jw_if hq with ⟨c36, hq⟩ | ⟨c36, hq⟩
                                                                    · refine jw_tableIn (tgt := 1595) (off := 1556) dL_law_39 (by rw [c36]; decide) (by rw [c36]; decide) (by rw [c36]; rfl) (by decide) ?_
                                                                      exact l_L_law_b1595 hk23 hq
                                                                    · rcases jw_if hq with ⟨c37, hq⟩ | ⟨c37, hq⟩
                                                                      · refine jw_tableIn (tgt := 1667) (off := 1628) dL_law_39 (by rw [c37]; decide) (by rw [c37]; decide) (by rw [c37]; rfl) (by decide) ?_
                                                                        exact l_L_law_b1667 hk23 hq
                                                                      · rcases jw_if hq with ⟨c38, hq⟩ | ⟨c38, hq⟩
                                                                        · refine jw_tableIn (tgt := 1723) (off := 1684) dL_law_39 (by rw [c38]; decide) (by rw [c38]; decide) (by rw [c38]; rfl) (by decide) ?_
                                                                          exact l_L_law_b1723 hk23 hq
                                                                        · rcases jw_if hq with ⟨c39, hq⟩ | ⟨c39, hq⟩
                                                                          · refine jw_tableIn (tgt := 1779) (off := 1740) dL_law_39 (by rw [c39]; decide) (by rw [c39]; decide) (by rw [c39]; rfl) (by decide) ?_
                                                                            exact l_L_law_b1779 hk23 hq
                                                                          · rcases jw_if hq with ⟨c40, hq⟩ | ⟨c40, hq⟩
                                                                            · refine jw_tableIn (tgt := 1835) (off := 1796) dL_law_39 (by rw [c40]; decide) (by rw [c40]; decide) (by rw [c40]; rfl) (by decide) ?_
                                                                              exact l_L_law_b1835 hk23 hq
                                                                            · rcases jw_if hq with ⟨c41, hq⟩ | ⟨c41, hq⟩
                                                                              · refine jw_tableIn (tgt := 1903) (off := 1864) dL_law_39 (by rw [c41]; decide) (by rw [c41]; decide) (by rw [c41]; rfl) (by decide) ?_
                                                                                exact l_L_law_b1903 hk23 hq
                                                                              · refine jw_tableOut (tgt := 1916) dL_law_39 (by have z0 : ¬ ((v3 &&& (63 : Int32))).toInt = 0 := lv_neT c4 rfl; have z1 : ¬ ((v3 &&& (63 : Int32))).toInt = 1 := lv_neT c5 rfl; have z2 : ¬ ((v3 &&& (63 : Int32))).toInt = 2 := lv_neT c6 rfl; have z3 : ¬ ((v3 &&& (63 : Int32))).toInt = 3 := lv_neT c7 rfl; have z4 : ¬ ((v3 &&& (63 : Int32))).toInt = 4 := lv_neT c8 rfl; have z5 : ¬ ((v3 &&& (63 : Int32))).toInt = 5 := lv_neT c9 rfl; have z6 : ¬ ((v3 &&& (63 : Int32))).toInt = 6 := lv_neT c10 rfl; have z7 : ¬ ((v3 &&& (63 : Int32))).toInt = 7 := lv_neT c11 rfl; have z8 : ¬ ((v3 &&& (63 : Int32))).toInt = 8 := lv_neT c12 rfl; have z9 : ¬ ((v3 &&& (63 : Int32))).toInt = 9 := lv_neT c13 rfl; have z10 : ¬ ((v3 &&& (63 : Int32))).toInt = 10 := lv_neT c14 rfl; have z11 : ¬ ((v3 &&& (63 : Int32))).toInt = 11 := lv_neT c15 rfl; have z12 : ¬ ((v3 &&& (63 : Int32))).toInt = 12 := lv_neT c16 rfl; have z13 : ¬ ((v3 &&& (63 : Int32))).toInt = 13 := lv_neT c17 rfl; have z14 : ¬ ((v3 &&& (63 : Int32))).toInt = 14 := lv_neT c18 rfl; have z15 : ¬ ((v3 &&& (63 : Int32))).toInt = 15 := lv_neT c19 rfl; have z16 : ¬ ((v3 &&& (63 : Int32))).toInt = 16 := lv_neT c20 rfl; have z17 : ¬ ((v3 &&& (63 : Int32))).toInt = 17 := lv_neT c21 rfl; have z18 : ¬ ((v3 &&& (63 : Int32))).toInt = 18 := lv_neT c22 rfl; have z19 : ¬ ((v3 &&& (63 : Int32))).toInt = 19 := lv_neT c23 rfl; have z20 : ¬ ((v3 &&& (63 : Int32))).toInt = 20 := lv_neT c24 rfl; have z21 : ¬ ((v3 &&& (63 : Int32))).toInt = 21 := lv_neT c25 rfl; have z22 : ¬ ((v3 &&& (63 : Int32))).toInt = 22 := lv_neT c26 rfl; have z23 : ¬ ((v3 &&& (63 : Int32))).toInt = 23 := lv_neT c27 rfl; have z24 : ¬ ((v3 &&& (63 : Int32))).toInt = 24 := lv_neT c28 rfl; have z25 : ¬ ((v3 &&& (63 : Int32))).toInt = 25 := lv_neT c29 rfl; have z26 : ¬ ((v3 &&& (63 : Int32))).toInt = 26 := lv_neT c30 rfl; have z27 : ¬ ((v3 &&& (63 : Int32))).toInt = 27 := lv_neT c31 rfl; have z28 : ¬ ((v3 &&& (63 : Int32))).toInt = 28 := lv_neT c32 rfl; have z29 : ¬ ((v3 &&& (63 : Int32))).toInt = 29 := lv_neT c33 rfl; have z30 : ¬ ((v3 &&& (63 : Int32))).toInt = 30 := lv_neT c34 rfl; have z31 : ¬ ((v3 &&& (63 : Int32))).toInt = 31 := lv_neT c35 rfl; have z32 : ¬ ((v3 &&& (63 : Int32))).toInt = 32 := lv_neT c36 rfl; have z33 : ¬ ((v3 &&& (63 : Int32))).toInt = 33 := lv_neT c37 rfl; have z34 : ¬ ((v3 &&& (63 : Int32))).toInt = 34 := lv_neT c38 rfl; have z35 : ¬ ((v3 &&& (63 : Int32))).toInt = 35 := lv_neT c39 rfl; have z36 : ¬ ((v3 &&& (63 : Int32))).toInt = 36 := lv_neT c40 rfl; have z37 : ¬ ((v3 &&& (63 : Int32))).toInt = 37 := lv_neT c41 rfl; omega) (by decide) ?_
                                                                                exact l_L_law_b1916 hk23 hq

theorem l_L_law_b23 {Ls : Nat} {xs : Nat → Int32} {hi : jw_H} : ∀ (n : Nat) (h : jw_H) (x1 : Nat) (x2 : Nat) (x3 : Option Nat) (x4 : Int32) (r : Int32) (h' : jw_H), f_L_law_b23 Ls xs n h x1 x2 x3 x4 = some (r, h') → jw_E 21 (uL_law Ls xs) hi 23 [some (.retAddr 0), some (.ref x1), some (.ref x2), some (va_rf x3), some (.int x4), none, none] [] h (.inl (some (.int r))) h' := by
  intro n
  induction n with
  | zero => intro h x1 x2 x3 x4 r h' hq; exact nomatch hq
  | succ n ih => intro h x1 x2 x3 x4 r h' hq; exact l_L_law_b23g ih hq

set_option maxRecDepth 100000 in
set_option maxHeartbeats 4000000 in
theorem l_L_law {Ls : Nat} {xs : Nat → Int32} {hi : jw_H} {h : jw_H}  {r : Int32} {h' : jw_H} (hq : f_L_law Ls xs h  = some (r, h')) : jw_E 21 (uL_law Ls xs) hi 0 [some (.retAddr 0), none, none, none, none, none, none] [] h (.inl (some (.int r))) h' := by
  unfold f_L_law at hq
  obtain ⟨h1, eh1, hq⟩ := Option.bind_eq_some_iff.mp hq
  have eh1 := Option.some.inj eh1
  refine jw_mk (c := 11) dL_law_0 (by decide) cl_L_8 inst_11 ini_11 ?_
  rw [eh1]
  refine jw_dup dL_law_3 rfl ?_
  obtain ⟨w3, h2, ew3, hq⟩ := jw_b2_spec hq
  refine jw_callI (As := []) (S := [.ref (jw_n h)]) (a := (jw_n h)) (v := none) dL_law_4 mt_X11_init in_X11_init rfl lk_L_98 (c_X11_init ew3) rfl (by decide) (Nat.le_of_ble_eq_true rfl) rfl ?_
  refine jw_astore_n (o := (some (jw_n h))) (L' := [some (.retAddr 0), some (.ref (jw_n h)), none, none, none, none, none]) dL_law_7 (Nat.le_of_ble_eq_true rfl) rfl ?_
  obtain ⟨h4, eh4, hq⟩ := Option.bind_eq_some_iff.mp hq
  have eh4 := Option.some.inj eh4
  refine jw_mk (c := 12) dL_law_8 (by decide) cl_L_99 inst_12 ini_12 ?_
  rw [eh4]
  refine jw_dup dL_law_11 rfl ?_
  obtain ⟨w6, h5, ew6, hq⟩ := jw_b2_spec hq
  refine jw_callI (As := []) (S := [.ref (jw_n h2)]) (a := (jw_n h2)) (v := none) dL_law_12 mt_X12_init in_X12_init rfl lk_L_101 (c_X12_init ew6) rfl (by decide) (Nat.le_of_ble_eq_true rfl) rfl ?_
  refine jw_astore_n (o := (some (jw_n h2))) (L' := [some (.retAddr 0), some (.ref (jw_n h)), some (.ref (jw_n h2)), none, none, none, none]) dL_law_15 (Nat.le_of_ble_eq_true rfl) rfl ?_
  refine jw_iconst dL_law_16 (v := (1 : Int32)) (by decide) ?_
  obtain ⟨h7, eh7, hq⟩ := Option.bind_eq_some_iff.mp hq
  obtain ⟨ew8, eh7⟩ := jw_mka_spec eh7
  refine jw_mkL dL_law_17 ac_long ew8.1 ew8.2 ?_
  rw [eh7]
  refine jw_astore_n (o := (some (jw_n h5))) (L' := [some (.retAddr 0), some (.ref (jw_n h)), some (.ref (jw_n h2)), some (va_rf (some (jw_n h5))), none, none, none]) dL_law_19 (Nat.le_of_ble_eq_true rfl) rfl ?_
  refine jw_iconst dL_law_20 (v := (0 : Int32)) (by decide) ?_
  refine jw_istore (L' := [some (.retAddr 0), some (.ref (jw_n h)), some (.ref (jw_n h2)), some (va_rf (some (jw_n h5))), some (.int (0 : Int32)), none, none]) dL_law_21 (Nat.le_of_ble_eq_true rfl) ((jw_st1_of (j := 3) jw_long_rf).trans rfl) ?_
  exact l_L_law_b23  jw_FU _ _ _ _ _ _ _ hq
