theorem jw_clr_of {L : List (Option Value)} {j : Nat} (h : jw_long L[j]? = false) : jw_clr L (j + 1) = L := by
  simp only [jw_clr, h, cond_false]
set_option maxRecDepth 100000 in
theorem mt_X11_init : jw_mt yX11_init cX11_init 3 none 0 := ⟨((jw_tt (jw_c1 _ (List.mem_of_getElem? (i := 26) rfl)) rfl)), ((jw_tt (jw_c1 _ (List.mem_of_getElem? (i := 1) rfl)) rfl)), ⟨by decide, by decide, by decide +kernel⟩, by decide⟩
set_option maxRecDepth 100000 in
theorem in_X11_init : Cond.instanceMethod yX11_init ∈ jw_T := (jw_tt (jw_c1 _ (List.mem_of_getElem? (i := 25) rfl)) rfl)
set_option maxRecDepth 100000 in
theorem lk_L_167 : jw_lk RL 167 yX11_init := Or.inl ((jw_tt (jw_c1 _ (List.mem_of_getElem? (i := 24) rfl)) rfl))
set_option maxRecDepth 100000 in
theorem mt_X11_at : jw_mt yX11_at cX11_at 4 (some .int) 2 := ⟨((jw_tt (jw_c4 _ (List.mem_of_getElem? (i := 54) rfl)) rfl)), ((jw_tt (jw_c1 _ (List.mem_of_getElem? (i := 1) rfl)) rfl)), ⟨by decide, by decide, by decide +kernel⟩, by decide⟩
set_option maxRecDepth 100000 in
theorem in_X11_at : Cond.instanceMethod yX11_at ∈ jw_T := (jw_tt (jw_c4 _ (List.mem_of_getElem? (i := 52) rfl)) rfl)
set_option maxRecDepth 100000 in
theorem se_X11_at : Cond.selects yX11_at.cls yX11_at yX11_at ∈ jw_T := (jw_tt (jw_c4 _ (List.mem_of_getElem? (i := 53) rfl)) rfl)
set_option maxRecDepth 100000 in
theorem lk_L_79 : jw_lk RL 79 yX11_at := Or.inl ((jw_tt (jw_c4 _ (List.mem_of_getElem? (i := 51) rfl)) rfl))
set_option maxRecDepth 100000 in
theorem mt_X11_deeds : jw_mt yX11_deeds cX11_deeds 1 (some .int) 0 := ⟨((jw_tt (jw_c4 _ (List.mem_of_getElem? (i := 83) rfl)) rfl)), ((jw_tt (jw_c1 _ (List.mem_of_getElem? (i := 1) rfl)) rfl)), ⟨by decide, by decide, by decide +kernel⟩, by decide⟩
set_option maxRecDepth 100000 in
theorem in_X11_deeds : Cond.instanceMethod yX11_deeds ∈ jw_T := (jw_tt (jw_c4 _ (List.mem_of_getElem? (i := 81) rfl)) rfl)
set_option maxRecDepth 100000 in
theorem se_X11_deeds : Cond.selects yX11_deeds.cls yX11_deeds yX11_deeds ∈ jw_T := (jw_tt (jw_c4 _ (List.mem_of_getElem? (i := 82) rfl)) rfl)
set_option maxRecDepth 100000 in
theorem lk_L_105 : jw_lk RL 105 yX11_deeds := Or.inl ((jw_tt (jw_c4 _ (List.mem_of_getElem? (i := 80) rfl)) rfl))
set_option maxRecDepth 100000 in
theorem mt_X11_fault : jw_mt yX11_fault cX11_fault 1 (some .int) 0 := ⟨((jw_tt (jw_c4 _ (List.mem_of_getElem? (i := 125) rfl)) rfl)), ((jw_tt (jw_c1 _ (List.mem_of_getElem? (i := 1) rfl)) rfl)), ⟨by decide, by decide, by decide +kernel⟩, by decide⟩
set_option maxRecDepth 100000 in
theorem in_X11_fault : Cond.instanceMethod yX11_fault ∈ jw_T := (jw_tt (jw_c4 _ (List.mem_of_getElem? (i := 123) rfl)) rfl)
set_option maxRecDepth 100000 in
theorem se_X11_fault : Cond.selects yX11_fault.cls yX11_fault yX11_fault ∈ jw_T := (jw_tt (jw_c4 _ (List.mem_of_getElem? (i := 124) rfl)) rfl)
set_option maxRecDepth 100000 in
theorem lk_L_112 : jw_lk RL 112 yX11_fault := Or.inl ((jw_tt (jw_c4 _ (List.mem_of_getElem? (i := 122) rfl)) rfl))
set_option maxRecDepth 100000 in
theorem mt_X11_find : jw_mt yX11_find cX11_find 2 (some .int) 1 := ⟨((jw_tt (jw_c6 _ (List.mem_of_getElem? (i := 227) rfl)) rfl)), ((jw_tt (jw_c1 _ (List.mem_of_getElem? (i := 1) rfl)) rfl)), ⟨by decide, by decide, by decide +kernel⟩, by decide⟩
set_option maxRecDepth 100000 in
theorem in_X11_find : Cond.instanceMethod yX11_find ∈ jw_T := (jw_tt (jw_c6 _ (List.mem_of_getElem? (i := 225) rfl)) rfl)
set_option maxRecDepth 100000 in
theorem se_X11_find : Cond.selects yX11_find.cls yX11_find yX11_find ∈ jw_T := (jw_tt (jw_c6 _ (List.mem_of_getElem? (i := 226) rfl)) rfl)
set_option maxRecDepth 100000 in
theorem lk_L_160 : jw_lk RL 160 yX11_find := Or.inl ((jw_tt (jw_c6 _ (List.mem_of_getElem? (i := 224) rfl)) rfl))
set_option maxRecDepth 100000 in
theorem mt_X11_findEnd : jw_mt yX11_findEnd cX11_findEnd 2 (some .int) 1 := ⟨((jw_tt (jw_c6 _ (List.mem_of_getElem? (i := 232) rfl)) rfl)), ((jw_tt (jw_c1 _ (List.mem_of_getElem? (i := 1) rfl)) rfl)), ⟨by decide, by decide, by decide +kernel⟩, by decide⟩
set_option maxRecDepth 100000 in
theorem in_X11_findEnd : Cond.instanceMethod yX11_findEnd ∈ jw_T := (jw_tt (jw_c6 _ (List.mem_of_getElem? (i := 230) rfl)) rfl)
set_option maxRecDepth 100000 in
theorem se_X11_findEnd : Cond.selects yX11_findEnd.cls yX11_findEnd yX11_findEnd ∈ jw_T := (jw_tt (jw_c6 _ (List.mem_of_getElem? (i := 231) rfl)) rfl)
set_option maxRecDepth 100000 in
theorem lk_L_164 : jw_lk RL 164 yX11_findEnd := Or.inl ((jw_tt (jw_c6 _ (List.mem_of_getElem? (i := 229) rfl)) rfl))
set_option maxRecDepth 100000 in
theorem mt_X11_findStart : jw_mt yX11_findStart cX11_findStart 2 (some .int) 1 := ⟨((jw_tt (jw_c6 _ (List.mem_of_getElem? (i := 222) rfl)) rfl)), ((jw_tt (jw_c1 _ (List.mem_of_getElem? (i := 1) rfl)) rfl)), ⟨by decide, by decide, by decide +kernel⟩, by decide⟩
set_option maxRecDepth 100000 in
theorem in_X11_findStart : Cond.instanceMethod yX11_findStart ∈ jw_T := (jw_tt (jw_c6 _ (List.mem_of_getElem? (i := 220) rfl)) rfl)
set_option maxRecDepth 100000 in
theorem se_X11_findStart : Cond.selects yX11_findStart.cls yX11_findStart yX11_findStart ∈ jw_T := (jw_tt (jw_c6 _ (List.mem_of_getElem? (i := 221) rfl)) rfl)
set_option maxRecDepth 100000 in
theorem lk_L_157 : jw_lk RL 157 yX11_findStart := Or.inl ((jw_tt (jw_c6 _ (List.mem_of_getElem? (i := 219) rfl)) rfl))
set_option maxRecDepth 100000 in
theorem mt_X11_id : jw_mt yX11_id cX11_id 2 (some .int) 1 := ⟨((jw_tt (jw_c4 _ (List.mem_of_getElem? (i := 67) rfl)) rfl)), ((jw_tt (jw_c1 _ (List.mem_of_getElem? (i := 1) rfl)) rfl)), ⟨by decide, by decide, by decide +kernel⟩, by decide⟩
set_option maxRecDepth 100000 in
theorem in_X11_id : Cond.instanceMethod yX11_id ∈ jw_T := (jw_tt (jw_c4 _ (List.mem_of_getElem? (i := 65) rfl)) rfl)
set_option maxRecDepth 100000 in
theorem se_X11_id : Cond.selects yX11_id.cls yX11_id yX11_id ∈ jw_T := (jw_tt (jw_c4 _ (List.mem_of_getElem? (i := 66) rfl)) rfl)
set_option maxRecDepth 100000 in
theorem lk_L_90 : jw_lk RL 90 yX11_id := Or.inl ((jw_tt (jw_c4 _ (List.mem_of_getElem? (i := 64) rfl)) rfl))
set_option maxRecDepth 100000 in
theorem mt_X11_isSound : jw_mt yX11_isSound cX11_isSound 1 (some .boolean) 0 := ⟨((jw_tt (jw_c3 _ (List.mem_of_getElem? (i := 214) rfl)) rfl)), ((jw_tt (jw_c1 _ (List.mem_of_getElem? (i := 1) rfl)) rfl)), ⟨by decide, by decide, by decide +kernel⟩, by decide⟩
set_option maxRecDepth 100000 in
theorem in_X11_isSound : Cond.instanceMethod yX11_isSound ∈ jw_T := (jw_tt (jw_c3 _ (List.mem_of_getElem? (i := 212) rfl)) rfl)
set_option maxRecDepth 100000 in
theorem se_X11_isSound : Cond.selects yX11_isSound.cls yX11_isSound yX11_isSound ∈ jw_T := (jw_tt (jw_c3 _ (List.mem_of_getElem? (i := 213) rfl)) rfl)
set_option maxRecDepth 100000 in
theorem lk_L_118 : jw_lk RL 118 yX11_isSound := Or.inl ((jw_tt (jw_c3 _ (List.mem_of_getElem? (i := 211) rfl)) rfl))
set_option maxRecDepth 100000 in
theorem mt_X11_keep : jw_mt yX11_keep cX11_keep 4 (some .int) 1 := ⟨((jw_tt (jw_c6 _ (List.mem_of_getElem? (i := 59) rfl)) rfl)), ((jw_tt (jw_c1 _ (List.mem_of_getElem? (i := 1) rfl)) rfl)), ⟨by decide, by decide, by decide +kernel⟩, by decide⟩
set_option maxRecDepth 100000 in
theorem in_X11_keep : Cond.instanceMethod yX11_keep ∈ jw_T := (jw_tt (jw_c6 _ (List.mem_of_getElem? (i := 57) rfl)) rfl)
set_option maxRecDepth 100000 in
theorem se_X11_keep : Cond.selects yX11_keep.cls yX11_keep yX11_keep ∈ jw_T := (jw_tt (jw_c6 _ (List.mem_of_getElem? (i := 58) rfl)) rfl)
set_option maxRecDepth 100000 in
theorem lk_L_134 : jw_lk RL 134 yX11_keep := Or.inl ((jw_tt (jw_c6 _ (List.mem_of_getElem? (i := 56) rfl)) rfl))
set_option maxRecDepth 100000 in
theorem mt_X11_length : jw_mt yX11_length cX11_length 2 (some .int) 1 := ⟨((jw_tt (jw_c4 _ (List.mem_of_getElem? (i := 29) rfl)) rfl)), ((jw_tt (jw_c1 _ (List.mem_of_getElem? (i := 1) rfl)) rfl)), ⟨by decide, by decide, by decide +kernel⟩, by decide⟩
set_option maxRecDepth 100000 in
theorem in_X11_length : Cond.instanceMethod yX11_length ∈ jw_T := (jw_tt (jw_c4 _ (List.mem_of_getElem? (i := 27) rfl)) rfl)
set_option maxRecDepth 100000 in
theorem se_X11_length : Cond.selects yX11_length.cls yX11_length yX11_length ∈ jw_T := (jw_tt (jw_c4 _ (List.mem_of_getElem? (i := 28) rfl)) rfl)
set_option maxRecDepth 100000 in
theorem lk_L_76 : jw_lk RL 76 yX11_length := Or.inl ((jw_tt (jw_c4 _ (List.mem_of_getElem? (i := 26) rfl)) rfl))
set_option maxRecDepth 100000 in
theorem mt_X11_lines : jw_mt yX11_lines cX11_lines 1 (some .int) 0 := ⟨((jw_tt (jw_c3 _ (List.mem_of_getElem? (i := 67) rfl)) rfl)), ((jw_tt (jw_c1 _ (List.mem_of_getElem? (i := 1) rfl)) rfl)), ⟨by decide, by decide, by decide +kernel⟩, by decide⟩
set_option maxRecDepth 100000 in
theorem in_X11_lines : Cond.instanceMethod yX11_lines ∈ jw_T := (jw_tt (jw_c3 _ (List.mem_of_getElem? (i := 65) rfl)) rfl)
set_option maxRecDepth 100000 in
theorem se_X11_lines : Cond.selects yX11_lines.cls yX11_lines yX11_lines ∈ jw_T := (jw_tt (jw_c3 _ (List.mem_of_getElem? (i := 66) rfl)) rfl)
set_option maxRecDepth 100000 in
theorem lk_L_71 : jw_lk RL 71 yX11_lines := Or.inl ((jw_tt (jw_c3 _ (List.mem_of_getElem? (i := 64) rfl)) rfl))
set_option maxRecDepth 100000 in
theorem mt_X11_mark : jw_mt yX11_mark cX11_mark 2 (some .int) 1 := ⟨((jw_tt (jw_c4 _ (List.mem_of_getElem? (i := 72) rfl)) rfl)), ((jw_tt (jw_c1 _ (List.mem_of_getElem? (i := 1) rfl)) rfl)), ⟨by decide, by decide, by decide +kernel⟩, by decide⟩
set_option maxRecDepth 100000 in
theorem in_X11_mark : Cond.instanceMethod yX11_mark ∈ jw_T := (jw_tt (jw_c4 _ (List.mem_of_getElem? (i := 70) rfl)) rfl)
set_option maxRecDepth 100000 in
theorem se_X11_mark : Cond.selects yX11_mark.cls yX11_mark yX11_mark ∈ jw_T := (jw_tt (jw_c4 _ (List.mem_of_getElem? (i := 71) rfl)) rfl)
set_option maxRecDepth 100000 in
theorem lk_L_93 : jw_lk RL 93 yX11_mark := Or.inl ((jw_tt (jw_c4 _ (List.mem_of_getElem? (i := 69) rfl)) rfl))
set_option maxRecDepth 100000 in
theorem mt_X11_patternFault : jw_mt yX11_patternFault cX11_patternFault 1 (some .int) 0 := ⟨((jw_tt (jw_c6 _ (List.mem_of_getElem? (i := 214) rfl)) rfl)), ((jw_tt (jw_c1 _ (List.mem_of_getElem? (i := 1) rfl)) rfl)), ⟨by decide, by decide, by decide +kernel⟩, by decide⟩
set_option maxRecDepth 100000 in
theorem in_X11_patternFault : Cond.instanceMethod yX11_patternFault ∈ jw_T := (jw_tt (jw_c6 _ (List.mem_of_getElem? (i := 212) rfl)) rfl)
set_option maxRecDepth 100000 in
theorem se_X11_patternFault : Cond.selects yX11_patternFault.cls yX11_patternFault yX11_patternFault ∈ jw_T := (jw_tt (jw_c6 _ (List.mem_of_getElem? (i := 213) rfl)) rfl)
set_option maxRecDepth 100000 in
theorem lk_L_154 : jw_lk RL 154 yX11_patternFault := Or.inl ((jw_tt (jw_c6 _ (List.mem_of_getElem? (i := 211) rfl)) rfl))
set_option maxRecDepth 100000 in
theorem mt_X11_play : jw_mt yX11_play cX11_play 3 (some .int) 1 := ⟨((jw_tt (jw_c6 _ (List.mem_of_getElem? (i := 68) rfl)) rfl)), ((jw_tt (jw_c1 _ (List.mem_of_getElem? (i := 1) rfl)) rfl)), ⟨by decide, by decide, by decide +kernel⟩, by decide⟩
set_option maxRecDepth 100000 in
theorem in_X11_play : Cond.instanceMethod yX11_play ∈ jw_T := (jw_tt (jw_c6 _ (List.mem_of_getElem? (i := 66) rfl)) rfl)
set_option maxRecDepth 100000 in
theorem se_X11_play : Cond.selects yX11_play.cls yX11_play yX11_play ∈ jw_T := (jw_tt (jw_c6 _ (List.mem_of_getElem? (i := 67) rfl)) rfl)
set_option maxRecDepth 100000 in
theorem lk_L_137 : jw_lk RL 137 yX11_play := Or.inl ((jw_tt (jw_c6 _ (List.mem_of_getElem? (i := 65) rfl)) rfl))
set_option maxRecDepth 100000 in
theorem mt_X11_present : jw_mt yX11_present cX11_present 1 (some .int) 0 := ⟨((jw_tt (jw_c4 _ (List.mem_of_getElem? (i := 63) rfl)) rfl)), ((jw_tt (jw_c1 _ (List.mem_of_getElem? (i := 1) rfl)) rfl)), ⟨by decide, by decide, by decide +kernel⟩, by decide⟩
set_option maxRecDepth 100000 in
theorem in_X11_present : Cond.instanceMethod yX11_present ∈ jw_T := (jw_tt (jw_c4 _ (List.mem_of_getElem? (i := 61) rfl)) rfl)
set_option maxRecDepth 100000 in
theorem se_X11_present : Cond.selects yX11_present.cls yX11_present yX11_present ∈ jw_T := (jw_tt (jw_c4 _ (List.mem_of_getElem? (i := 62) rfl)) rfl)
set_option maxRecDepth 100000 in
theorem lk_L_87 : jw_lk RL 87 yX11_present := Or.inl ((jw_tt (jw_c4 _ (List.mem_of_getElem? (i := 60) rfl)) rfl))
set_option maxRecDepth 100000 in
theorem mt_X11_reason : jw_mt yX11_reason cX11_reason 1 (some .int) 0 := ⟨((jw_tt (jw_c6 _ (List.mem_of_getElem? (i := 36) rfl)) rfl)), ((jw_tt (jw_c1 _ (List.mem_of_getElem? (i := 1) rfl)) rfl)), ⟨by decide, by decide, by decide +kernel⟩, by decide⟩
set_option maxRecDepth 100000 in
theorem in_X11_reason : Cond.instanceMethod yX11_reason ∈ jw_T := (jw_tt (jw_c6 _ (List.mem_of_getElem? (i := 34) rfl)) rfl)
set_option maxRecDepth 100000 in
theorem se_X11_reason : Cond.selects yX11_reason.cls yX11_reason yX11_reason ∈ jw_T := (jw_tt (jw_c6 _ (List.mem_of_getElem? (i := 35) rfl)) rfl)
set_option maxRecDepth 100000 in
theorem lk_L_122 : jw_lk RL 122 yX11_reason := Or.inl ((jw_tt (jw_c6 _ (List.mem_of_getElem? (i := 33) rfl)) rfl))
set_option maxRecDepth 100000 in
theorem mt_X11_run : jw_mt yX11_run cX11_run 2 (some .int) 0 := ⟨((jw_tt (jw_c4 _ (List.mem_of_getElem? (i := 237) rfl)) rfl)), ((jw_tt (jw_c1 _ (List.mem_of_getElem? (i := 1) rfl)) rfl)), ⟨by decide, by decide, by decide +kernel⟩, by decide⟩
set_option maxRecDepth 100000 in
theorem in_X11_run : Cond.instanceMethod yX11_run ∈ jw_T := (jw_tt (jw_c4 _ (List.mem_of_getElem? (i := 235) rfl)) rfl)
set_option maxRecDepth 100000 in
theorem se_X11_run : Cond.selects yX11_run.cls yX11_run yX11_run ∈ jw_T := (jw_tt (jw_c4 _ (List.mem_of_getElem? (i := 236) rfl)) rfl)
set_option maxRecDepth 100000 in
theorem lk_L_115 : jw_lk RL 115 yX11_run := Or.inl ((jw_tt (jw_c4 _ (List.mem_of_getElem? (i := 234) rfl)) rfl))
set_option maxRecDepth 100000 in
theorem mt_X11_sample : jw_mt yX11_sample cX11_sample 3 (some .int) 2 := ⟨((jw_tt (jw_c3 _ (List.mem_of_getElem? (i := 71) rfl)) rfl)), ((jw_tt (jw_c1 _ (List.mem_of_getElem? (i := 1) rfl)) rfl)), ⟨by decide, by decide, by decide +kernel⟩, by decide⟩
set_option maxRecDepth 100000 in
theorem in_X11_sample : Cond.instanceMethod yX11_sample ∈ jw_T := (jw_tt (jw_c3 _ (List.mem_of_getElem? (i := 69) rfl)) rfl)
set_option maxRecDepth 100000 in
theorem se_X11_sample : Cond.selects yX11_sample.cls yX11_sample yX11_sample ∈ jw_T := (jw_tt (jw_c3 _ (List.mem_of_getElem? (i := 70) rfl)) rfl)
set_option maxRecDepth 100000 in
theorem lk_L_176 : jw_lk RL 176 yX11_sample := Or.inl ((jw_tt (jw_c3 _ (List.mem_of_getElem? (i := 68) rfl)) rfl))
set_option maxRecDepth 100000 in
theorem mt_X11_stream : jw_mt yX11_stream cX11_stream 3 (some .int) 1 := ⟨((jw_tt (jw_c6 _ (List.mem_of_getElem? (i := 73) rfl)) rfl)), ((jw_tt (jw_c1 _ (List.mem_of_getElem? (i := 1) rfl)) rfl)), ⟨by decide, by decide, by decide +kernel⟩, by decide⟩
set_option maxRecDepth 100000 in
theorem in_X11_stream : Cond.instanceMethod yX11_stream ∈ jw_T := (jw_tt (jw_c6 _ (List.mem_of_getElem? (i := 71) rfl)) rfl)
set_option maxRecDepth 100000 in
theorem se_X11_stream : Cond.selects yX11_stream.cls yX11_stream yX11_stream ∈ jw_T := (jw_tt (jw_c6 _ (List.mem_of_getElem? (i := 72) rfl)) rfl)
set_option maxRecDepth 100000 in
theorem lk_L_140 : jw_lk RL 140 yX11_stream := Or.inl ((jw_tt (jw_c6 _ (List.mem_of_getElem? (i := 70) rfl)) rfl))
set_option maxRecDepth 100000 in
theorem mt_X11_type : jw_mt yX11_type cX11_type 2 (some .int) 1 := ⟨((jw_tt (jw_c4 _ (List.mem_of_getElem? (i := 99) rfl)) rfl)), ((jw_tt (jw_c1 _ (List.mem_of_getElem? (i := 1) rfl)) rfl)), ⟨by decide, by decide, by decide +kernel⟩, by decide⟩
set_option maxRecDepth 100000 in
theorem in_X11_type : Cond.instanceMethod yX11_type ∈ jw_T := (jw_tt (jw_c4 _ (List.mem_of_getElem? (i := 97) rfl)) rfl)
set_option maxRecDepth 100000 in
theorem se_X11_type : Cond.selects yX11_type.cls yX11_type yX11_type ∈ jw_T := (jw_tt (jw_c4 _ (List.mem_of_getElem? (i := 98) rfl)) rfl)
set_option maxRecDepth 100000 in
theorem lk_L_11 : jw_lk RL 11 yX11_type := Or.inl ((jw_tt (jw_c4 _ (List.mem_of_getElem? (i := 96) rfl)) rfl))
set_option maxRecDepth 100000 in
theorem mt_X11_undo : jw_mt yX11_undo cX11_undo 1 (some .int) 0 := ⟨((jw_tt (jw_c6 _ (List.mem_of_getElem? (i := 200) rfl)) rfl)), ((jw_tt (jw_c1 _ (List.mem_of_getElem? (i := 1) rfl)) rfl)), ⟨by decide, by decide, by decide +kernel⟩, by decide⟩
set_option maxRecDepth 100000 in
theorem in_X11_undo : Cond.instanceMethod yX11_undo ∈ jw_T := (jw_tt (jw_c6 _ (List.mem_of_getElem? (i := 198) rfl)) rfl)
set_option maxRecDepth 100000 in
theorem se_X11_undo : Cond.selects yX11_undo.cls yX11_undo yX11_undo ∈ jw_T := (jw_tt (jw_c6 _ (List.mem_of_getElem? (i := 199) rfl)) rfl)
set_option maxRecDepth 100000 in
theorem lk_L_143 : jw_lk RL 143 yX11_undo := Or.inl ((jw_tt (jw_c6 _ (List.mem_of_getElem? (i := 197) rfl)) rfl))
set_option maxRecDepth 100000 in
theorem mt_X11_undoRun : jw_mt yX11_undoRun cX11_undoRun 4 (some .int) 0 := ⟨((jw_tt (jw_c6 _ (List.mem_of_getElem? (i := 40) rfl)) rfl)), ((jw_tt (jw_c1 _ (List.mem_of_getElem? (i := 1) rfl)) rfl)), ⟨by decide, by decide, by decide +kernel⟩, by decide⟩
set_option maxRecDepth 100000 in
theorem in_X11_undoRun : Cond.instanceMethod yX11_undoRun ∈ jw_T := (jw_tt (jw_c6 _ (List.mem_of_getElem? (i := 38) rfl)) rfl)
set_option maxRecDepth 100000 in
theorem se_X11_undoRun : Cond.selects yX11_undoRun.cls yX11_undoRun yX11_undoRun ∈ jw_T := (jw_tt (jw_c6 _ (List.mem_of_getElem? (i := 39) rfl)) rfl)
set_option maxRecDepth 100000 in
theorem lk_L_125 : jw_lk RL 125 yX11_undoRun := Or.inl ((jw_tt (jw_c6 _ (List.mem_of_getElem? (i := 37) rfl)) rfl))
set_option maxRecDepth 100000 in
theorem mt_X11_wipe : jw_mt yX11_wipe cX11_wipe 2 (some .int) 0 := ⟨((jw_tt (jw_c4 _ (List.mem_of_getElem? (i := 90) rfl)) rfl)), ((jw_tt (jw_c1 _ (List.mem_of_getElem? (i := 1) rfl)) rfl)), ⟨by decide, by decide, by decide +kernel⟩, by decide⟩
set_option maxRecDepth 100000 in
theorem in_X11_wipe : Cond.instanceMethod yX11_wipe ∈ jw_T := (jw_tt (jw_c4 _ (List.mem_of_getElem? (i := 88) rfl)) rfl)
set_option maxRecDepth 100000 in
theorem se_X11_wipe : Cond.selects yX11_wipe.cls yX11_wipe yX11_wipe ∈ jw_T := (jw_tt (jw_c4 _ (List.mem_of_getElem? (i := 89) rfl)) rfl)
set_option maxRecDepth 100000 in
theorem lk_L_17 : jw_lk RL 17 yX11_wipe := Or.inl ((jw_tt (jw_c4 _ (List.mem_of_getElem? (i := 87) rfl)) rfl))
set_option maxRecDepth 100000 in
theorem mt_L_all : jw_mt yL_all cL_all 4 (some .long) 1 := ⟨((jw_tt (jw_c4 _ (List.mem_of_getElem? (i := 20) rfl)) rfl)), ((jw_tt (jw_c1 _ (List.mem_of_getElem? (i := 0) rfl)) rfl)), ⟨by decide, by decide, by decide +kernel⟩, by decide⟩
set_option maxRecDepth 100000 in
theorem st_L_all : Cond.static yL_all ∈ jw_T := (jw_tt (jw_c4 _ (List.mem_of_getElem? (i := 19) rfl)) rfl)
set_option maxRecDepth 100000 in
theorem lk_L_100 : jw_lk RL 100 yL_all := Or.inl ((jw_tt (jw_c4 _ (List.mem_of_getElem? (i := 18) rfl)) rfl))
set_option maxRecDepth 100000 in
theorem mt_L_cell : jw_mt yL_cell cL_cell 2 (some .int) 2 := ⟨((jw_tt (jw_c4 _ (List.mem_of_getElem? (i := 9) rfl)) rfl)), ((jw_tt (jw_c1 _ (List.mem_of_getElem? (i := 0) rfl)) rfl)), ⟨by decide, by decide, by decide +kernel⟩, by decide⟩
set_option maxRecDepth 100000 in
theorem st_L_cell : Cond.static yL_cell ∈ jw_T := (jw_tt (jw_c4 _ (List.mem_of_getElem? (i := 8) rfl)) rfl)
set_option maxRecDepth 100000 in
theorem lk_L_168 : jw_lk RL 168 yL_cell := Or.inl ((jw_tt (jw_c4 _ (List.mem_of_getElem? (i := 7) rfl)) rfl))
set_option maxRecDepth 100000 in
theorem mt_L_found : jw_mt yL_found cL_found 5 (some .boolean) 1 := ⟨((jw_tt (jw_c6 _ (List.mem_of_getElem? (i := 209) rfl)) rfl)), ((jw_tt (jw_c1 _ (List.mem_of_getElem? (i := 0) rfl)) rfl)), ⟨by decide, by decide, by decide +kernel⟩, by decide⟩
set_option maxRecDepth 100000 in
theorem st_L_found : Cond.static yL_found ∈ jw_T := (jw_tt (jw_c6 _ (List.mem_of_getElem? (i := 208) rfl)) rfl)
set_option maxRecDepth 100000 in
theorem lk_L_189 : jw_lk RL 189 yL_found := Or.inl ((jw_tt (jw_c6 _ (List.mem_of_getElem? (i := 207) rfl)) rfl))
set_option maxRecDepth 100000 in
theorem mt_L_lines : jw_mt yL_lines cL_lines 4 (some .long) 1 := ⟨((jw_tt (jw_c4 _ (List.mem_of_getElem? (i := 77) rfl)) rfl)), ((jw_tt (jw_c1 _ (List.mem_of_getElem? (i := 0) rfl)) rfl)), ⟨by decide, by decide, by decide +kernel⟩, by decide⟩
set_option maxRecDepth 100000 in
theorem st_L_lines : Cond.static yL_lines ∈ jw_T := (jw_tt (jw_c4 _ (List.mem_of_getElem? (i := 76) rfl)) rfl)
set_option maxRecDepth 100000 in
theorem lk_L_103 : jw_lk RL 103 yL_lines := Or.inl ((jw_tt (jw_c4 _ (List.mem_of_getElem? (i := 75) rfl)) rfl))
set_option maxRecDepth 100000 in
theorem mt_L_low : jw_mt yL_low cL_low 2 (some .int) 2 := ⟨((jw_tt (jw_c4 _ (List.mem_of_getElem? (i := 13) rfl)) rfl)), ((jw_tt (jw_c1 _ (List.mem_of_getElem? (i := 0) rfl)) rfl)), ⟨by decide, by decide, by decide +kernel⟩, by decide⟩
set_option maxRecDepth 100000 in
theorem st_L_low : Cond.static yL_low ∈ jw_T := (jw_tt (jw_c4 _ (List.mem_of_getElem? (i := 12) rfl)) rfl)
set_option maxRecDepth 100000 in
theorem lk_L_173 : jw_lk RL 173 yL_low := Or.inl ((jw_tt (jw_c4 _ (List.mem_of_getElem? (i := 11) rfl)) rfl))
set_option maxRecDepth 100000 in
theorem mt_L_oneByOne : jw_mt yL_oneByOne cL_oneByOne 8 (some .boolean) 1 := ⟨((jw_tt (jw_c6 _ (List.mem_of_getElem? (i := 203) rfl)) rfl)), ((jw_tt (jw_c1 _ (List.mem_of_getElem? (i := 0) rfl)) rfl)), ⟨by decide, by decide, by decide +kernel⟩, by decide⟩
set_option maxRecDepth 100000 in
theorem st_L_oneByOne : Cond.static yL_oneByOne ∈ jw_T := (jw_tt (jw_c6 _ (List.mem_of_getElem? (i := 202) rfl)) rfl)
set_option maxRecDepth 100000 in
theorem lk_L_186 : jw_lk RL 186 yL_oneByOne := Or.inl ((jw_tt (jw_c6 _ (List.mem_of_getElem? (i := 201) rfl)) rfl))
set_option maxRecDepth 100000 in
theorem mt_L_rows : jw_mt yL_rows cL_rows 5 (some .long) 1 := ⟨((jw_tt (jw_c4 _ (List.mem_of_getElem? (i := 23) rfl)) rfl)), ((jw_tt (jw_c1 _ (List.mem_of_getElem? (i := 0) rfl)) rfl)), ⟨by decide, by decide, by decide +kernel⟩, by decide⟩
set_option maxRecDepth 100000 in
theorem st_L_rows : Cond.static yL_rows ∈ jw_T := (jw_tt (jw_c4 _ (List.mem_of_getElem? (i := 22) rfl)) rfl)
set_option maxRecDepth 100000 in
theorem lk_L_83 : jw_lk RL 83 yL_rows := Or.inl ((jw_tt (jw_c4 _ (List.mem_of_getElem? (i := 21) rfl)) rfl))
set_option maxRecDepth 100000 in
theorem mt_L_streamed : jw_mt yL_streamed cL_streamed 9 (some .boolean) 1 := ⟨((jw_tt (jw_c6 _ (List.mem_of_getElem? (i := 52) rfl)) rfl)), ((jw_tt (jw_c1 _ (List.mem_of_getElem? (i := 0) rfl)) rfl)), ⟨by decide, by decide, by decide +kernel⟩, by decide⟩
set_option maxRecDepth 100000 in
theorem st_L_streamed : Cond.static yL_streamed ∈ jw_T := (jw_tt (jw_c6 _ (List.mem_of_getElem? (i := 51) rfl)) rfl)
set_option maxRecDepth 100000 in
theorem lk_L_182 : jw_lk RL 182 yL_streamed := Or.inl ((jw_tt (jw_c6 _ (List.mem_of_getElem? (i := 50) rfl)) rfl))
set_option maxRecDepth 100000 in
theorem mt_L_typed : jw_mt yL_typed cL_typed 6 (some .boolean) 3 := ⟨((jw_tt (jw_c4 _ (List.mem_of_getElem? (i := 94) rfl)) rfl)), ((jw_tt (jw_c1 _ (List.mem_of_getElem? (i := 0) rfl)) rfl)), ⟨by decide, by decide, by decide +kernel⟩, by decide⟩
set_option maxRecDepth 100000 in
theorem st_L_typed : Cond.static yL_typed ∈ jw_T := (jw_tt (jw_c4 _ (List.mem_of_getElem? (i := 93) rfl)) rfl)
set_option maxRecDepth 100000 in
theorem lk_L_23 : jw_lk RL 23 yL_typed := Or.inl ((jw_tt (jw_c4 _ (List.mem_of_getElem? (i := 92) rfl)) rfl))
set_option maxRecDepth 100000 in
theorem mt_L_types : jw_mt yL_types cL_types 3 (some .boolean) 2 := ⟨((jw_tt (jw_c4 _ (List.mem_of_getElem? (i := 86) rfl)) rfl)), ((jw_tt (jw_c1 _ (List.mem_of_getElem? (i := 0) rfl)) rfl)), ⟨by decide, by decide, by decide +kernel⟩, by decide⟩
set_option maxRecDepth 100000 in
theorem st_L_types : Cond.static yL_types ∈ jw_T := (jw_tt (jw_c4 _ (List.mem_of_getElem? (i := 85) rfl)) rfl)
set_option maxRecDepth 100000 in
theorem lk_L_108 : jw_lk RL 108 yL_types := Or.inl ((jw_tt (jw_c4 _ (List.mem_of_getElem? (i := 84) rfl)) rfl))
set_option maxRecDepth 100000 in
theorem mt_L_undone : jw_mt yL_undone cL_undone 11 (some .boolean) 2 := ⟨((jw_tt (jw_c4 _ (List.mem_of_getElem? (i := 17) rfl)) rfl)), ((jw_tt (jw_c1 _ (List.mem_of_getElem? (i := 0) rfl)) rfl)), ⟨by decide, by decide, by decide +kernel⟩, by decide⟩
set_option maxRecDepth 100000 in
theorem st_L_undone : Cond.static yL_undone ∈ jw_T := (jw_tt (jw_c4 _ (List.mem_of_getElem? (i := 16) rfl)) rfl)
set_option maxRecDepth 100000 in
theorem lk_L_179 : jw_lk RL 179 yL_undone := Or.inl ((jw_tt (jw_c4 _ (List.mem_of_getElem? (i := 15) rfl)) rfl))
set_option maxRecDepth 100000 in
theorem cl_L_12 : Cond.classLink RL 12 (jw_cn 11) ∈ jw_T := (jw_tt (jw_c1 _ (List.mem_of_getElem? (i := 22) rfl)) rfl)
set_option maxRecDepth 100000 in
theorem cw_L_128 : Cond.constantLong RL 128 (4278295482728184229 : Int64) ∈ jw_T := (jw_tt (jw_c6 _ (List.mem_of_getElem? (i := 53) rfl)) rfl)
set_option maxRecDepth 100000 in
theorem cw_L_130 : Cond.constantLong RL 130 (3442313063511620901 : Int64) ∈ jw_T := (jw_tt (jw_c6 _ (List.mem_of_getElem? (i := 54) rfl)) rfl)
set_option maxRecDepth 100000 in
theorem cw_L_132 : Cond.constantLong RL 132 (28412667713524411 : Int64) ∈ jw_T := (jw_tt (jw_c6 _ (List.mem_of_getElem? (i := 55) rfl)) rfl)
set_option maxRecDepth 100000 in
theorem cw_L_146 : Cond.constantLong RL 146 (7227361623303518629 : Int64) ∈ jw_T := (jw_tt (jw_c6 _ (List.mem_of_getElem? (i := 204) rfl)) rfl)
set_option maxRecDepth 100000 in
theorem cw_L_148 : Cond.constantLong RL 148 (47 : Int64) ∈ jw_T := (jw_tt (jw_c6 _ (List.mem_of_getElem? (i := 205) rfl)) rfl)
set_option maxRecDepth 100000 in
theorem cw_L_150 : Cond.constantLong RL 150 (3443170682464671731 : Int64) ∈ jw_T := (jw_tt (jw_c6 _ (List.mem_of_getElem? (i := 206) rfl)) rfl)
set_option maxRecDepth 100000 in
theorem cw_L_152 : Cond.constantLong RL 152 (1611105 : Int64) ∈ jw_T := (jw_tt (jw_c6 _ (List.mem_of_getElem? (i := 210) rfl)) rfl)
set_option maxRecDepth 100000 in
theorem cw_L_172 : Cond.constant RL 172 (65536 : Int32) ∈ jw_T := (jw_tt (jw_c6 _ (List.mem_of_getElem? (i := 233) rfl)) rfl)
set_option maxRecDepth 100000 in
theorem cw_L_21 : Cond.constantLong RL 21 (7448825222350502309 : Int64) ∈ jw_T := (jw_tt (jw_c4 _ (List.mem_of_getElem? (i := 91) rfl)) rfl)
set_option maxRecDepth 100000 in
theorem cw_L_29 : Cond.constantLong RL 29 (26943723495 : Int64) ∈ jw_T := (jw_tt (jw_c4 _ (List.mem_of_getElem? (i := 102) rfl)) rfl)
set_option maxRecDepth 100000 in
theorem cw_L_31 : Cond.constantLong RL 31 (9893090865 : Int64) ∈ jw_T := (jw_tt (jw_c4 _ (List.mem_of_getElem? (i := 103) rfl)) rfl)
set_option maxRecDepth 100000 in
theorem cw_L_33 : Cond.constantLong RL 33 (817061 : Int64) ∈ jw_T := (jw_tt (jw_c4 _ (List.mem_of_getElem? (i := 104) rfl)) rfl)
set_option maxRecDepth 100000 in
theorem cw_L_35 : Cond.constantLong RL 35 (850725 : Int64) ∈ jw_T := (jw_tt (jw_c4 _ (List.mem_of_getElem? (i := 105) rfl)) rfl)
set_option maxRecDepth 100000 in
theorem cw_L_37 : Cond.constantLong RL 37 (13861 : Int64) ∈ jw_T := (jw_tt (jw_c4 _ (List.mem_of_getElem? (i := 106) rfl)) rfl)
set_option maxRecDepth 100000 in
theorem cw_L_39 : Cond.constantLong RL 39 (223122993 : Int64) ∈ jw_T := (jw_tt (jw_c4 _ (List.mem_of_getElem? (i := 107) rfl)) rfl)
set_option maxRecDepth 100000 in
theorem cw_L_41 : Cond.constantLong RL 41 (604721 : Int64) ∈ jw_T := (jw_tt (jw_c4 _ (List.mem_of_getElem? (i := 108) rfl)) rfl)
set_option maxRecDepth 100000 in
theorem cw_L_43 : Cond.constantLong RL 43 (7743594277010692039 : Int64) ∈ jw_T := (jw_tt (jw_c4 _ (List.mem_of_getElem? (i := 109) rfl)) rfl)
set_option maxRecDepth 100000 in
theorem cw_L_45 : Cond.constantLong RL 45 (16097 : Int64) ∈ jw_T := (jw_tt (jw_c4 _ (List.mem_of_getElem? (i := 110) rfl)) rfl)
set_option maxRecDepth 100000 in
theorem cw_L_47 : Cond.constantLong RL 47 (12965 : Int64) ∈ jw_T := (jw_tt (jw_c4 _ (List.mem_of_getElem? (i := 111) rfl)) rfl)
set_option maxRecDepth 100000 in
theorem cw_L_49 : Cond.constantLong RL 49 (13349 : Int64) ∈ jw_T := (jw_tt (jw_c4 _ (List.mem_of_getElem? (i := 112) rfl)) rfl)
set_option maxRecDepth 100000 in
theorem cw_L_51 : Cond.constantLong RL 51 (8861365562411636274 : Int64) ∈ jw_T := (jw_tt (jw_c4 _ (List.mem_of_getElem? (i := 113) rfl)) rfl)
set_option maxRecDepth 100000 in
theorem cw_L_53 : Cond.constantLong RL 53 (1646030 : Int64) ∈ jw_T := (jw_tt (jw_c4 _ (List.mem_of_getElem? (i := 114) rfl)) rfl)
set_option maxRecDepth 100000 in
theorem cw_L_55 : Cond.constantLong RL 55 (210759871 : Int64) ∈ jw_T := (jw_tt (jw_c4 _ (List.mem_of_getElem? (i := 115) rfl)) rfl)
set_option maxRecDepth 100000 in
theorem cw_L_57 : Cond.constantLong RL 57 (3407405772541833007 : Int64) ∈ jw_T := (jw_tt (jw_c4 _ (List.mem_of_getElem? (i := 116) rfl)) rfl)
set_option maxRecDepth 100000 in
theorem cw_L_59 : Cond.constantLong RL 59 (6115 : Int64) ∈ jw_T := (jw_tt (jw_c4 _ (List.mem_of_getElem? (i := 117) rfl)) rfl)
set_option maxRecDepth 100000 in
theorem cw_L_61 : Cond.constantLong RL 61 (439096374470565 : Int64) ∈ jw_T := (jw_tt (jw_c4 _ (List.mem_of_getElem? (i := 118) rfl)) rfl)
set_option maxRecDepth 100000 in
theorem cw_L_63 : Cond.constantLong RL 63 (117 : Int64) ∈ jw_T := (jw_tt (jw_c4 _ (List.mem_of_getElem? (i := 119) rfl)) rfl)
set_option maxRecDepth 100000 in
theorem cw_L_65 : Cond.constantLong RL 65 (13489 : Int64) ∈ jw_T := (jw_tt (jw_c4 _ (List.mem_of_getElem? (i := 120) rfl)) rfl)
set_option maxRecDepth 100000 in
theorem cw_L_67 : Cond.constantLong RL 67 (3789327980196 : Int64) ∈ jw_T := (jw_tt (jw_c4 _ (List.mem_of_getElem? (i := 121) rfl)) rfl)
set_option maxRecDepth 100000 in
theorem cw_L_69 : Cond.constantLong RL 69 (17 : Int64) ∈ jw_T := (jw_tt (jw_c4 _ (List.mem_of_getElem? (i := 24) rfl)) rfl)
set_option maxRecDepth 100000 in
theorem cw_L_7 : Cond.constant RL 7 (15596339 : Int32) ∈ jw_T := (jw_tt (jw_c4 _ (List.mem_of_getElem? (i := 10) rfl)) rfl)
set_option maxRecDepth 100000 in
theorem cw_L_74 : Cond.constantLong RL 74 (31 : Int64) ∈ jw_T := (jw_tt (jw_c4 _ (List.mem_of_getElem? (i := 25) rfl)) rfl)
set_option maxRecDepth 100000 in
theorem cw_L_8 : Cond.constant RL 8 (2147483647 : Int32) ∈ jw_T := (jw_tt (jw_c4 _ (List.mem_of_getElem? (i := 14) rfl)) rfl)
set_option maxRecDepth 100000 in
theorem cw_L_9 : Cond.constantLong RL 9 (127 : Int64) ∈ jw_T := (jw_tt (jw_c4 _ (List.mem_of_getElem? (i := 95) rfl)) rfl)
set_option maxRecDepth 100000 in
theorem cw_L_96 : Cond.constantLong RL 96 (1000003 : Int64) ∈ jw_T := (jw_tt (jw_c4 _ (List.mem_of_getElem? (i := 78) rfl)) rfl)
set_option maxRecDepth 100000 in
theorem cw_L_98 : Cond.constantLong RL 98 (131 : Int64) ∈ jw_T := (jw_tt (jw_c4 _ (List.mem_of_getElem? (i := 79) rfl)) rfl)
set_option maxRecDepth 100000 in
theorem inst_11 : Cond.instantiable (jw_cn 11) (jw_nf 11) ∈ jw_T := (jw_tt (jw_c1 _ (List.mem_of_getElem? (i := 23) rfl)) rfl)
set_option maxRecDepth 100000 in
theorem ini_11 : Cond.initialized (jw_cn 11) ∈ jw_T := (jw_tt (jw_c1 _ (List.mem_of_getElem? (i := 1) rfl)) rfl)
/-! L_cell -/
abbrev uL_cell (Ls : Nat) (xs : Nat → Int32) : jw_U := (yL_cell.cls, cL_cell, 2, false, (some .int), some [], some (Ls, xs))

noncomputable def g_L_cell_b22 (Ls : Nat) (xs : Nat → Int32) (h : jw_H) (t0 : Int32) : Option (Int32 × jw_H) :=
 some (t0, h)

noncomputable def f_L_cell (Ls : Nat) (xs : Nat → Int32) (h : jw_H) (x1 : Int32) : Option (Int32 × jw_H) :=
 if (Int32.ofNat Ls) ≤ x1 then (g_L_cell_b22 Ls xs  h (((15596339 : Int32) * (x1 + (2 : Int32))) + (11981 : Int32)))
 else ((jw_xs Ls xs x1).bind fun v3 =>
 g_L_cell_b22 Ls xs  h v3)

set_option maxRecDepth 100000 in
set_option maxHeartbeats 4000000 in
theorem l_L_cell_b22 {Ls : Nat} {xs : Nat → Int32} {hi : jw_H} {h : jw_H} {t0 : Int32} {r : Int32} {h' : jw_H} (hq : g_L_cell_b22 Ls xs h t0 = some (r, h')) : jw_E 0 (uL_cell Ls xs) hi 22 [none, none] [.int t0] h (.inl (some (.int r))) h' := by
  unfold g_L_cell_b22 at hq
  cases hq
  exact jw_iret (ty := .int) dL_cell_22 rfl rfl

set_option maxRecDepth 100000 in
set_option maxHeartbeats 4000000 in
theorem l_L_cell {Ls : Nat} {xs : Nat → Int32} {hi : jw_H} {h : jw_H} {x1 : Int32} {r : Int32} {h' : jw_H} (hq : f_L_cell Ls xs h x1 = some (r, h')) : jw_E 0 (uL_cell Ls xs) hi 0 [some (.retAddr 0), some (.int x1)] [] h (.inl (some (.int r))) h' := by
  unfold f_L_cell at hq
  refine jw_iload_n dL_cell_0 rfl ?_
  refine jw_aload_nS dL_cell_1 rfl ?_
  refine jw_slen (Ls0 := Ls) rfl dL_cell_2 ?_
  rcases jw_if hq with ⟨c2, hq⟩ | ⟨c2, hq⟩
  · refine jw_icmp_ge_t (tgt := 12) dL_cell_3 (by decide) c2 ?_
    refine jw_ldc dL_cell_12 cw_L_7 ?_
    refine jw_iload_n dL_cell_14 rfl ?_
    refine jw_iconst dL_cell_15 (v := (2 : Int32)) (by decide) ?_
    refine jw_iadd dL_cell_16 ?_
    refine jw_imul dL_cell_17 ?_
    refine jw_sipush dL_cell_18 (v := (11981 : Int32)) (by decide) ?_
    refine jw_iadd dL_cell_21 ?_
    refine jw_forget [false, false] (L' := [none, none]) rfl ?_
    exact l_L_cell_b22  hq
  · refine jw_icmp_ge_f (tgt := 12) dL_cell_3 (by decide) c2 ?_
    refine jw_aload_nS dL_cell_6 rfl ?_
    refine jw_iload_n dL_cell_7 rfl ?_
    obtain ⟨v3, ev3, hq⟩ := Option.bind_eq_some_iff.mp hq
    refine jw_sld (xs0 := xs) rfl dL_cell_8 ev3 ?_
    refine jw_goto (tgt := 22) dL_cell_9 (by decide) ?_
    refine jw_forget [false, false] (L' := [none, none]) rfl ?_
    exact l_L_cell_b22  hq

theorem c_L_cell {Ls : Nat} {xs : Nat → Int32} {h : jw_H} {x1 : Int32} {r : Int32} {h' : jw_H} (hq : f_L_cell Ls xs h x1 = some (r, h')) : jw_ConL Ls xs (Cond.code yL_cell cL_cell 2 (some .int)) yL_cell 0 [.retAddr 0, .int x1] h (.inl (some (.int r))) h' :=
  jw_conL (plainFor_of_name (by decide +kernel)) (by simp [jw_ent, jw_sl0_nil, jw_sl0_int, jw_sl0_long, jw_sl0_ref, jw_sl0_rf, jw_sl0_scr, List.replicate]) (by simp [jw_sl0_nil, jw_sl0_int, jw_sl0_long, jw_sl0_ref, jw_sl0_rf, jw_sl0_scr]) (l_L_cell hq)

/-! L_low -/
abbrev uL_low : jw_U := (yL_low.cls, cL_low, 2, false, (some .int), some [], none)

noncomputable def f_L_low (h : jw_H) (x0 : Int32) (x1 : Int32) : Option (Int32 × jw_H) :=
 (jw_nz x1).bind fun v1 =>
 some (((x0 &&& (2147483647 : Int32)) - (x0 &&& (2147483647 : Int32)) / x1 * x1), h)

set_option maxRecDepth 100000 in
set_option maxHeartbeats 4000000 in
theorem l_L_low {hi : jw_H} {h : jw_H} {x0 : Int32} {x1 : Int32} {r : Int32} {h' : jw_H} (hq : f_L_low  h x0 x1 = some (r, h')) : jw_E 0 uL_low hi 0 [some (.int x0), some (.int x1)] [] h (.inl (some (.int r))) h' := by
  unfold f_L_low at hq
  refine jw_iload_n dL_low_0 rfl ?_
  refine jw_ldc dL_low_1 cw_L_8 ?_
  refine jw_iand dL_low_3 ?_
  refine jw_iload_n dL_low_4 rfl ?_
  obtain ⟨v1, ev1, hq⟩ := Option.bind_eq_some_iff.mp hq
  refine jw_irem dL_low_5 (jw_nz_spec ev1) ?_
  cases hq
  exact jw_iret (ty := .int) dL_low_6 rfl rfl

theorem c_L_low {h : jw_H} {x0 : Int32} {x1 : Int32} {r : Int32} {h' : jw_H} (hq : f_L_low h x0 x1 = some (r, h')) : jw_Con (Cond.code yL_low cL_low 2 (some .int)) yL_low 0 [.int x0, .int x1] h (.inl (some (.int r))) h' :=
  jw_con false (plainFor_of_name (by decide +kernel)) (fun z => nomatch z) (by simp [jw_ent, jw_sl0_nil, jw_sl0_int, jw_sl0_long, jw_sl0_ref, jw_sl0_rf, jw_sl0_scr, List.replicate]) (by simp [jw_sl0_nil, jw_sl0_int, jw_sl0_long, jw_sl0_ref, jw_sl0_rf, jw_sl0_scr]) (l_L_low hq)

/-! L_rows -/
abbrev uL_rows : jw_U := (yL_rows.cls, cL_rows, 5, false, (some .long), some [], none)

noncomputable def g_L_rows_b30 (k6 : jw_H → Option Nat → Int64 → Int32 → Option (Int64 × jw_H)) (k30 : jw_H → Option Nat → Int64 → Int32 → Int32 → Option (Int64 × jw_H)) (h : jw_H) (x0 : Option Nat) (x1 : Int64) (x3 : Int32) (x4 : Int32) : Option (Int64 × jw_H) :=
 (jw_rc h 11 x0).bind fun a1 =>
 jw_b2 (f_X11_length h a1 x3) fun ww3 h2 =>
 jw_iw ww3 fun w3 =>
 if w3 ≤ x4 then (k6 h2 x0 x1 (x3 + (1 : Int32)))
 else ((jw_rc h2 11 x0).bind fun a5 =>
 jw_b2 (f_X11_at h2 a5 x3 x4) fun ww7 h6 =>
 jw_iw ww7 fun w7 =>
 k30 h6 x0 (((31 : Int64) * x1) + w7.toInt64) x3 (x4 + (1 : Int32)))

noncomputable def f_L_rows_b30 (k6 : jw_H → Option Nat → Int64 → Int32 → Option (Int64 × jw_H)) (n : Nat) : jw_H → Option Nat → Int64 → Int32 → Int32 → Option (Int64 × jw_H) :=
 Nat.rec (fun _ _ _ _ _ => none) (fun _ k30 => g_L_rows_b30 k6 k30) n

noncomputable def g_L_rows_b6 (k6 : jw_H → Option Nat → Int64 → Int32 → Option (Int64 × jw_H)) (h : jw_H) (x0 : Option Nat) (x1 : Int64) (x3 : Int32) : Option (Int64 × jw_H) :=
 (jw_rc h 11 x0).bind fun a1 =>
 jw_b2 (f_X11_lines h a1) fun w3 h2 =>
 if w3 < x3 then (some (x1, h2))
 else ((jw_rc h2 11 x0).bind fun a5 =>
 jw_b2 (f_X11_length h2 a5 x3) fun ww7 h6 =>
 jw_iw ww7 fun w7 =>
 f_L_rows_b30 k6 jw_FU h6 x0 (((31 : Int64) * x1) + w7.toInt64) x3 (0 : Int32))

noncomputable def f_L_rows_b6 (n : Nat) : jw_H → Option Nat → Int64 → Int32 → Option (Int64 × jw_H) :=
 Nat.rec (fun _ _ _ _ => none) (fun _ k6 => g_L_rows_b6 k6) n

noncomputable def f_L_rows (h : jw_H) (x0 : Option Nat) : Option (Int64 × jw_H) :=
 f_L_rows_b6  jw_FU h x0 (17 : Int64) (1 : Int32)

set_option maxRecDepth 100000 in
set_option maxHeartbeats 4000000 in
theorem l_L_rows_b30g {hi : jw_H} {k6 : jw_H → Option Nat → Int64 → Int32 → Option (Int64 × jw_H)} (hk6 : ∀ (h : jw_H) (x0 : Option Nat) (x1 : Int64) (x3 : Int32) (r : Int64) (h' : jw_H), k6 h x0 x1 x3 = some (r, h') → jw_E 9 uL_rows hi 6 [some (va_rf x0), some (.long x1), none, some (.int x3), none] [] h (.inl (some (.long r))) h') {k30 : jw_H → Option Nat → Int64 → Int32 → Int32 → Option (Int64 × jw_H)} (hk30 : ∀ (h : jw_H) (x0 : Option Nat) (x1 : Int64) (x3 : Int32) (x4 : Int32) (r : Int64) (h' : jw_H), k30 h x0 x1 x3 x4 = some (r, h') → jw_E 9 uL_rows hi 30 [some (va_rf x0), some (.long x1), none, some (.int x3), some (.int x4)] [] h (.inl (some (.long r))) h') {h : jw_H} {x0 : Option Nat} {x1 : Int64} {x3 : Int32} {x4 : Int32} {r : Int64} {h' : jw_H} (hq : g_L_rows_b30 k6 k30 h x0 x1 x3 x4 = some (r, h')) : jw_E 9 uL_rows hi 30 [some (va_rf x0), some (.long x1), none, some (.int x3), some (.int x4)] [] h (.inl (some (.long r))) h' := by
  unfold g_L_rows_b30 at hq
  refine jw_iload dL_rows_30 rfl ?_
  refine jw_aload_n dL_rows_32 (o := x0) rfl ?_
  refine jw_iload_n dL_rows_33 rfl ?_
  obtain ⟨a1, ea1, hq⟩ := Option.bind_eq_some_iff.mp hq
  obtain ⟨eoa1, eta1⟩ := jw_rc_spec ea1
  obtain ⟨ww3, h2, ew3, hq⟩ := jw_b2_spec hq
  rcases ww3 with w3 | Ew3
  · replace hq := jw_iw_l hq
    refine jw_callV (As := [.int x3]) (S := [.int x4]) (a := a1) (v := some (.int w3)) dL_rows_34 mt_X11_length in_X11_length se_X11_length lk_L_76 (c_X11_length ew3) eta1 (by decide) rfl rfl (by decide) (Nat.le_of_ble_eq_true rfl) (by cases eoa1; rfl) ?_
    rcases jw_if hq with ⟨c4, hq⟩ | ⟨c4, hq⟩
    · refine jw_icmp_ge_t (tgt := 61) dL_rows_37 (by decide) c4 ?_
      refine jw_iinc (L' := [some (va_rf x0), some (.long x1), none, some (.int (x3 + (1 : Int32))), some (.int x4)]) dL_rows_61 rfl (v := (1 : Int32)) (by decide) (Nat.le_of_ble_eq_true rfl) rfl ?_
      refine jw_goto (tgt := 6) dL_rows_64 (by decide) ?_
      refine jw_forget [true, true, true, true, false] (L' := [some (va_rf x0), some (.long x1), none, some (.int (x3 + (1 : Int32))), none]) rfl ?_
      exact hk6 _ _ _ _ _ _ hq
    · refine jw_icmp_ge_f (tgt := 61) dL_rows_37 (by decide) c4 ?_
      refine jw_ldc2 dL_rows_40 cw_L_74 ?_
      refine jw_lload_n dL_rows_43 rfl ?_
      refine jw_lmul dL_rows_44 ?_
      refine jw_aload_n dL_rows_45 (o := x0) rfl ?_
      refine jw_iload_n dL_rows_46 rfl ?_
      refine jw_iload dL_rows_47 rfl ?_
      obtain ⟨a5, ea5, hq⟩ := Option.bind_eq_some_iff.mp hq
      obtain ⟨eoa5, eta5⟩ := jw_rc_spec ea5
      obtain ⟨ww7, h6, ew7, hq⟩ := jw_b2_spec hq
      rcases ww7 with w7 | Ew7
      · replace hq := jw_iw_l hq
        refine jw_callV (As := [.int x3, .int x4]) (S := [.long ((31 : Int64) * x1)]) (a := a5) (v := some (.int w7)) dL_rows_49 mt_X11_at in_X11_at se_X11_at lk_L_79 (c_X11_at ew7) eta5 (by decide) rfl rfl (by decide) (Nat.le_of_ble_eq_true rfl) (by cases eoa5; rfl) ?_
        refine jw_i2l dL_rows_52 ?_
        refine jw_ladd dL_rows_53 ?_
        refine jw_lstore_n (L' := [some (va_rf x0), some (.long (((31 : Int64) * x1) + w7.toInt64)), none, some (.int x3), some (.int x4)]) dL_rows_54 (Nat.le_of_ble_eq_true rfl) ((jw_st2_of (j := 0) jw_long_rf).trans rfl) ?_
        refine jw_iinc (L' := [some (va_rf x0), some (.long (((31 : Int64) * x1) + w7.toInt64)), none, some (.int x3), some (.int (x4 + (1 : Int32)))]) dL_rows_55 rfl (v := (1 : Int32)) (by decide) (Nat.le_of_ble_eq_true rfl) rfl ?_
        refine jw_goto (tgt := 30) dL_rows_58 (by decide) ?_
        exact hk30 _ _ _ _ _ _ _ hq
      · exact nomatch hq
  · exact nomatch hq

theorem l_L_rows_b30 {hi : jw_H} {k6 : jw_H → Option Nat → Int64 → Int32 → Option (Int64 × jw_H)} (hk6 : ∀ (h : jw_H) (x0 : Option Nat) (x1 : Int64) (x3 : Int32) (r : Int64) (h' : jw_H), k6 h x0 x1 x3 = some (r, h') → jw_E 9 uL_rows hi 6 [some (va_rf x0), some (.long x1), none, some (.int x3), none] [] h (.inl (some (.long r))) h') : ∀ (n : Nat) (h : jw_H) (x0 : Option Nat) (x1 : Int64) (x3 : Int32) (x4 : Int32) (r : Int64) (h' : jw_H), f_L_rows_b30 k6 n h x0 x1 x3 x4 = some (r, h') → jw_E 9 uL_rows hi 30 [some (va_rf x0), some (.long x1), none, some (.int x3), some (.int x4)] [] h (.inl (some (.long r))) h' := by
  intro n
  induction n with
  | zero => intro h x0 x1 x3 x4 r h' hq; exact nomatch hq
  | succ n ih => intro h x0 x1 x3 x4 r h' hq; exact l_L_rows_b30g hk6 ih hq

set_option maxRecDepth 100000 in
set_option maxHeartbeats 4000000 in
theorem l_L_rows_b6g {hi : jw_H} {k6 : jw_H → Option Nat → Int64 → Int32 → Option (Int64 × jw_H)} (hk6 : ∀ (h : jw_H) (x0 : Option Nat) (x1 : Int64) (x3 : Int32) (r : Int64) (h' : jw_H), k6 h x0 x1 x3 = some (r, h') → jw_E 9 uL_rows hi 6 [some (va_rf x0), some (.long x1), none, some (.int x3), none] [] h (.inl (some (.long r))) h') {h : jw_H} {x0 : Option Nat} {x1 : Int64} {x3 : Int32} {r : Int64} {h' : jw_H} (hq : g_L_rows_b6 k6 h x0 x1 x3 = some (r, h')) : jw_E 9 uL_rows hi 6 [some (va_rf x0), some (.long x1), none, some (.int x3), none] [] h (.inl (some (.long r))) h' := by
  unfold g_L_rows_b6 at hq
  refine jw_iload_n dL_rows_6 rfl ?_
  refine jw_aload_n dL_rows_7 (o := x0) rfl ?_
  obtain ⟨a1, ea1, hq⟩ := Option.bind_eq_some_iff.mp hq
  obtain ⟨eoa1, eta1⟩ := jw_rc_spec ea1
  obtain ⟨w3, h2, ew3, hq⟩ := jw_b2_spec hq
  refine jw_callV (As := []) (S := [.int x3]) (a := a1) (v := some (.int w3)) dL_rows_8 mt_X11_lines in_X11_lines se_X11_lines lk_L_71 (c_X11_lines ew3) eta1 (by decide) rfl rfl (by decide) (Nat.le_of_ble_eq_true rfl) (by cases eoa1; rfl) ?_
  rcases jw_if hq with ⟨c4, hq⟩ | ⟨c4, hq⟩
  · refine jw_icmp_gt_t (tgt := 67) dL_rows_11 (by decide) c4 ?_
    refine jw_lload_n dL_rows_67 rfl ?_
    cases hq
    exact jw_lret dL_rows_68 rfl
  · refine jw_icmp_gt_f (tgt := 67) dL_rows_11 (by decide) c4 ?_
    refine jw_ldc2 dL_rows_14 cw_L_74 ?_
    refine jw_lload_n dL_rows_17 rfl ?_
    refine jw_lmul dL_rows_18 ?_
    refine jw_aload_n dL_rows_19 (o := x0) rfl ?_
    refine jw_iload_n dL_rows_20 rfl ?_
    obtain ⟨a5, ea5, hq⟩ := Option.bind_eq_some_iff.mp hq
    obtain ⟨eoa5, eta5⟩ := jw_rc_spec ea5
    obtain ⟨ww7, h6, ew7, hq⟩ := jw_b2_spec hq
    rcases ww7 with w7 | Ew7
    · replace hq := jw_iw_l hq
      refine jw_callV (As := [.int x3]) (S := [.long ((31 : Int64) * x1)]) (a := a5) (v := some (.int w7)) dL_rows_21 mt_X11_length in_X11_length se_X11_length lk_L_76 (c_X11_length ew7) eta5 (by decide) rfl rfl (by decide) (Nat.le_of_ble_eq_true rfl) (by cases eoa5; rfl) ?_
      refine jw_i2l dL_rows_24 ?_
      refine jw_ladd dL_rows_25 ?_
      refine jw_lstore_n (L' := [some (va_rf x0), some (.long (((31 : Int64) * x1) + w7.toInt64)), none, some (.int x3), none]) dL_rows_26 (Nat.le_of_ble_eq_true rfl) ((jw_st2_of (j := 0) jw_long_rf).trans rfl) ?_
      refine jw_iconst dL_rows_27 (v := (0 : Int32)) (by decide) ?_
      refine jw_istore (L' := [some (va_rf x0), some (.long (((31 : Int64) * x1) + w7.toInt64)), none, some (.int x3), some (.int (0 : Int32))]) dL_rows_28 (Nat.le_of_ble_eq_true rfl) rfl ?_
      exact l_L_rows_b30 hk6 jw_FU _ _ _ _ _ _ _ hq
    · exact nomatch hq

theorem l_L_rows_b6 {hi : jw_H} : ∀ (n : Nat) (h : jw_H) (x0 : Option Nat) (x1 : Int64) (x3 : Int32) (r : Int64) (h' : jw_H), f_L_rows_b6  n h x0 x1 x3 = some (r, h') → jw_E 9 uL_rows hi 6 [some (va_rf x0), some (.long x1), none, some (.int x3), none] [] h (.inl (some (.long r))) h' := by
  intro n
  induction n with
  | zero => intro h x0 x1 x3 r h' hq; exact nomatch hq
  | succ n ih => intro h x0 x1 x3 r h' hq; exact l_L_rows_b6g ih hq

set_option maxRecDepth 100000 in
set_option maxHeartbeats 4000000 in
theorem l_L_rows {hi : jw_H} {h : jw_H} {x0 : Option Nat} {r : Int64} {h' : jw_H} (hq : f_L_rows  h x0 = some (r, h')) : jw_E 9 uL_rows hi 0 [some (va_rf x0), none, none, none, none] [] h (.inl (some (.long r))) h' := by
  unfold f_L_rows at hq
  refine jw_ldc2 dL_rows_0 cw_L_69 ?_
  refine jw_lstore_n (L' := [some (va_rf x0), some (.long (17 : Int64)), none, none, none]) dL_rows_3 (Nat.le_of_ble_eq_true rfl) ((jw_st2_of (j := 0) jw_long_rf).trans rfl) ?_
  refine jw_iconst dL_rows_4 (v := (1 : Int32)) (by decide) ?_
  refine jw_istore_n (L' := [some (va_rf x0), some (.long (17 : Int64)), none, some (.int (1 : Int32)), none]) dL_rows_5 (Nat.le_of_ble_eq_true rfl) rfl ?_
  exact l_L_rows_b6  jw_FU _ _ _ _ _ _ hq

theorem c_L_rows {h : jw_H} {x0 : Option Nat} {r : Int64} {h' : jw_H} (hq : f_L_rows h x0 = some (r, h')) : jw_Con (Cond.code yL_rows cL_rows 5 (some .long)) yL_rows 9 [va_rf x0] h (.inl (some (.long r))) h' :=
  jw_con false (plainFor_of_name (by decide +kernel)) (fun z => nomatch z) (by simp [jw_ent, jw_sl0_nil, jw_sl0_int, jw_sl0_long, jw_sl0_ref, jw_sl0_rf, jw_sl0_scr, List.replicate]) (by simp [jw_sl0_nil, jw_sl0_int, jw_sl0_long, jw_sl0_ref, jw_sl0_rf, jw_sl0_scr]) (l_L_rows hq)

/-! L_all -/
abbrev uL_all : jw_U := (yL_all.cls, cL_all, 4, false, (some .long), some [], none)

noncomputable def g_L_all_b46 (k46 : jw_H → Option Nat → Int64 → Int32 → Option (Int64 × jw_H)) (h : jw_H) (x0 : Option Nat) (x1 : Int64) (x3 : Int32) : Option (Int64 × jw_H) :=
 if (5 : Int32) ≤ x3 then (some (x1, h))
 else ((jw_rc h 11 x0).bind fun a2 =>
 jw_b2 (f_X11_mark h a2 x3) fun ww4 h3 =>
 jw_iw ww4 fun w4 =>
 k46 h3 x0 (((31 : Int64) * x1) + w4.toInt64) (x3 + (1 : Int32)))

noncomputable def f_L_all_b46 (n : Nat) : jw_H → Option Nat → Int64 → Int32 → Option (Int64 × jw_H) :=
 Nat.rec (fun _ _ _ _ => none) (fun _ k46 => g_L_all_b46 k46) n

noncomputable def g_L_all_b17 (k17 : jw_H → Option Nat → Int64 → Int32 → Option (Int64 × jw_H)) (h : jw_H) (x0 : Option Nat) (x1 : Int64) (x3 : Int32) : Option (Int64 × jw_H) :=
 (jw_rc h 11 x0).bind fun a1 =>
 jw_b2 (f_X11_lines h a1) fun w3 h2 =>
 if w3 < x3 then (f_L_all_b46  jw_FU h2 x0 x1 (0 : Int32))
 else ((jw_rc h2 11 x0).bind fun a5 =>
 jw_b2 (f_X11_id h2 a5 x3) fun ww7 h6 =>
 jw_iw ww7 fun w7 =>
 k17 h6 x0 (((31 : Int64) * x1) + w7.toInt64) (x3 + (1 : Int32)))

noncomputable def f_L_all_b17 (n : Nat) : jw_H → Option Nat → Int64 → Int32 → Option (Int64 × jw_H) :=
 Nat.rec (fun _ _ _ _ => none) (fun _ k17 => g_L_all_b17 k17) n

noncomputable def f_L_all (h : jw_H) (x0 : Option Nat) : Option (Int64 × jw_H) :=
 jw_b2 (f_L_rows h x0) fun w2 h1 =>
 (jw_rc h1 11 x0).bind fun a3 =>
 jw_b2 (f_X11_present h1 a3) fun w5 h4 =>
 f_L_all_b17  jw_FU h4 x0 ((w2 * (31 : Int64)) + w5.toInt64) (1 : Int32)

set_option maxRecDepth 100000 in
set_option maxHeartbeats 4000000 in
theorem l_L_all_b46g {hi : jw_H} {k46 : jw_H → Option Nat → Int64 → Int32 → Option (Int64 × jw_H)} (hk46 : ∀ (h : jw_H) (x0 : Option Nat) (x1 : Int64) (x3 : Int32) (r : Int64) (h' : jw_H), k46 h x0 x1 x3 = some (r, h') → jw_E 10 uL_all hi 46 [some (va_rf x0), some (.long x1), none, some (.int x3)] [] h (.inl (some (.long r))) h') {h : jw_H} {x0 : Option Nat} {x1 : Int64} {x3 : Int32} {r : Int64} {h' : jw_H} (hq : g_L_all_b46 k46 h x0 x1 x3 = some (r, h')) : jw_E 10 uL_all hi 46 [some (va_rf x0), some (.long x1), none, some (.int x3)] [] h (.inl (some (.long r))) h' := by
  unfold g_L_all_b46 at hq
  refine jw_iload_n dL_all_46 rfl ?_
  refine jw_iconst dL_all_47 (v := (5 : Int32)) (by decide) ?_
  rcases jw_if hq with ⟨c1, hq⟩ | ⟨c1, hq⟩
  · refine jw_icmp_ge_t (tgt := 70) dL_all_48 (by decide) c1 ?_
    refine jw_lload_n dL_all_70 rfl ?_
    cases hq
    exact jw_lret dL_all_71 rfl
  · refine jw_icmp_ge_f (tgt := 70) dL_all_48 (by decide) c1 ?_
    refine jw_ldc2 dL_all_51 cw_L_74 ?_
    refine jw_lload_n dL_all_54 rfl ?_
    refine jw_lmul dL_all_55 ?_
    refine jw_aload_n dL_all_56 (o := x0) rfl ?_
    refine jw_iload_n dL_all_57 rfl ?_
    obtain ⟨a2, ea2, hq⟩ := Option.bind_eq_some_iff.mp hq
    obtain ⟨eoa2, eta2⟩ := jw_rc_spec ea2
    obtain ⟨ww4, h3, ew4, hq⟩ := jw_b2_spec hq
    rcases ww4 with w4 | Ew4
    · replace hq := jw_iw_l hq
      refine jw_callV (As := [.int x3]) (S := [.long ((31 : Int64) * x1)]) (a := a2) (v := some (.int w4)) dL_all_58 mt_X11_mark in_X11_mark se_X11_mark lk_L_93 (c_X11_mark ew4) eta2 (by decide) rfl rfl (by decide) (Nat.le_of_ble_eq_true rfl) (by cases eoa2; rfl) ?_
      refine jw_i2l dL_all_61 ?_
      refine jw_ladd dL_all_62 ?_
      refine jw_lstore_n (L' := [some (va_rf x0), some (.long (((31 : Int64) * x1) + w4.toInt64)), none, some (.int x3)]) dL_all_63 (Nat.le_of_ble_eq_true rfl) ((jw_st2_of (j := 0) jw_long_rf).trans rfl) ?_
      refine jw_iinc (L' := [some (va_rf x0), some (.long (((31 : Int64) * x1) + w4.toInt64)), none, some (.int (x3 + (1 : Int32)))]) dL_all_64 rfl (v := (1 : Int32)) (by decide) (Nat.le_of_ble_eq_true rfl) rfl ?_
      refine jw_goto (tgt := 46) dL_all_67 (by decide) ?_
      exact hk46 _ _ _ _ _ _ hq
    · exact nomatch hq

theorem l_L_all_b46 {hi : jw_H} : ∀ (n : Nat) (h : jw_H) (x0 : Option Nat) (x1 : Int64) (x3 : Int32) (r : Int64) (h' : jw_H), f_L_all_b46  n h x0 x1 x3 = some (r, h') → jw_E 10 uL_all hi 46 [some (va_rf x0), some (.long x1), none, some (.int x3)] [] h (.inl (some (.long r))) h' := by
  intro n
  induction n with
  | zero => intro h x0 x1 x3 r h' hq; exact nomatch hq
  | succ n ih => intro h x0 x1 x3 r h' hq; exact l_L_all_b46g ih hq

set_option maxRecDepth 100000 in
set_option maxHeartbeats 4000000 in
theorem l_L_all_b17g {hi : jw_H} {k17 : jw_H → Option Nat → Int64 → Int32 → Option (Int64 × jw_H)} (hk17 : ∀ (h : jw_H) (x0 : Option Nat) (x1 : Int64) (x3 : Int32) (r : Int64) (h' : jw_H), k17 h x0 x1 x3 = some (r, h') → jw_E 10 uL_all hi 17 [some (va_rf x0), some (.long x1), none, some (.int x3)] [] h (.inl (some (.long r))) h') {h : jw_H} {x0 : Option Nat} {x1 : Int64} {x3 : Int32} {r : Int64} {h' : jw_H} (hq : g_L_all_b17 k17 h x0 x1 x3 = some (r, h')) : jw_E 10 uL_all hi 17 [some (va_rf x0), some (.long x1), none, some (.int x3)] [] h (.inl (some (.long r))) h' := by
  unfold g_L_all_b17 at hq
  refine jw_iload_n dL_all_17 rfl ?_
  refine jw_aload_n dL_all_18 (o := x0) rfl ?_
  obtain ⟨a1, ea1, hq⟩ := Option.bind_eq_some_iff.mp hq
  obtain ⟨eoa1, eta1⟩ := jw_rc_spec ea1
  obtain ⟨w3, h2, ew3, hq⟩ := jw_b2_spec hq
  refine jw_callV (As := []) (S := [.int x3]) (a := a1) (v := some (.int w3)) dL_all_19 mt_X11_lines in_X11_lines se_X11_lines lk_L_71 (c_X11_lines ew3) eta1 (by decide) rfl rfl (by decide) (Nat.le_of_ble_eq_true rfl) (by cases eoa1; rfl) ?_
  rcases jw_if hq with ⟨c4, hq⟩ | ⟨c4, hq⟩
  · refine jw_icmp_gt_t (tgt := 44) dL_all_22 (by decide) c4 ?_
    refine jw_iconst dL_all_44 (v := (0 : Int32)) (by decide) ?_
    refine jw_istore_n (L' := [some (va_rf x0), some (.long x1), none, some (.int (0 : Int32))]) dL_all_45 (Nat.le_of_ble_eq_true rfl) rfl ?_
    exact l_L_all_b46  jw_FU _ _ _ _ _ _ hq
  · refine jw_icmp_gt_f (tgt := 44) dL_all_22 (by decide) c4 ?_
    refine jw_ldc2 dL_all_25 cw_L_74 ?_
    refine jw_lload_n dL_all_28 rfl ?_
    refine jw_lmul dL_all_29 ?_
    refine jw_aload_n dL_all_30 (o := x0) rfl ?_
    refine jw_iload_n dL_all_31 rfl ?_
    obtain ⟨a5, ea5, hq⟩ := Option.bind_eq_some_iff.mp hq
    obtain ⟨eoa5, eta5⟩ := jw_rc_spec ea5
    obtain ⟨ww7, h6, ew7, hq⟩ := jw_b2_spec hq
    rcases ww7 with w7 | Ew7
    · replace hq := jw_iw_l hq
      refine jw_callV (As := [.int x3]) (S := [.long ((31 : Int64) * x1)]) (a := a5) (v := some (.int w7)) dL_all_32 mt_X11_id in_X11_id se_X11_id lk_L_90 (c_X11_id ew7) eta5 (by decide) rfl rfl (by decide) (Nat.le_of_ble_eq_true rfl) (by cases eoa5; rfl) ?_
      refine jw_i2l dL_all_35 ?_
      refine jw_ladd dL_all_36 ?_
      refine jw_lstore_n (L' := [some (va_rf x0), some (.long (((31 : Int64) * x1) + w7.toInt64)), none, some (.int x3)]) dL_all_37 (Nat.le_of_ble_eq_true rfl) ((jw_st2_of (j := 0) jw_long_rf).trans rfl) ?_
      refine jw_iinc (L' := [some (va_rf x0), some (.long (((31 : Int64) * x1) + w7.toInt64)), none, some (.int (x3 + (1 : Int32)))]) dL_all_38 rfl (v := (1 : Int32)) (by decide) (Nat.le_of_ble_eq_true rfl) rfl ?_
      refine jw_goto (tgt := 17) dL_all_41 (by decide) ?_
      exact hk17 _ _ _ _ _ _ hq
    · exact nomatch hq

theorem l_L_all_b17 {hi : jw_H} : ∀ (n : Nat) (h : jw_H) (x0 : Option Nat) (x1 : Int64) (x3 : Int32) (r : Int64) (h' : jw_H), f_L_all_b17  n h x0 x1 x3 = some (r, h') → jw_E 10 uL_all hi 17 [some (va_rf x0), some (.long x1), none, some (.int x3)] [] h (.inl (some (.long r))) h' := by
  intro n
  induction n with
  | zero => intro h x0 x1 x3 r h' hq; exact nomatch hq
  | succ n ih => intro h x0 x1 x3 r h' hq; exact l_L_all_b17g ih hq

set_option maxRecDepth 100000 in
set_option maxHeartbeats 4000000 in
theorem l_L_all {hi : jw_H} {h : jw_H} {x0 : Option Nat} {r : Int64} {h' : jw_H} (hq : f_L_all  h x0 = some (r, h')) : jw_E 10 uL_all hi 0 [some (va_rf x0), none, none, none] [] h (.inl (some (.long r))) h' := by
  unfold f_L_all at hq
  refine jw_aload_n dL_all_0 (o := x0) rfl ?_
  obtain ⟨w2, h1, ew2, hq⟩ := jw_b2_spec hq
  refine jw_callS (As := [va_rf x0]) (S := []) (v := some (.long w2)) dL_all_1 mt_L_rows st_L_rows lk_L_83 (c_L_rows ew2) rfl (by decide) (Nat.le_of_ble_eq_true rfl) rfl ?_
  refine jw_ldc2 dL_all_4 cw_L_74 ?_
  refine jw_lmul dL_all_7 ?_
  refine jw_aload_n dL_all_8 (o := x0) rfl ?_
  obtain ⟨a3, ea3, hq⟩ := Option.bind_eq_some_iff.mp hq
  obtain ⟨eoa3, eta3⟩ := jw_rc_spec ea3
  obtain ⟨w5, h4, ew5, hq⟩ := jw_b2_spec hq
  refine jw_callV (As := []) (S := [.long (w2 * (31 : Int64))]) (a := a3) (v := some (.int w5)) dL_all_9 mt_X11_present in_X11_present se_X11_present lk_L_87 (c_X11_present ew5) eta3 (by decide) rfl rfl (by decide) (Nat.le_of_ble_eq_true rfl) (by cases eoa3; rfl) ?_
  refine jw_i2l dL_all_12 ?_
  refine jw_ladd dL_all_13 ?_
  refine jw_lstore_n (L' := [some (va_rf x0), some (.long ((w2 * (31 : Int64)) + w5.toInt64)), none, none]) dL_all_14 (Nat.le_of_ble_eq_true rfl) ((jw_st2_of (j := 0) jw_long_rf).trans rfl) ?_
  refine jw_iconst dL_all_15 (v := (1 : Int32)) (by decide) ?_
  refine jw_istore_n (L' := [some (va_rf x0), some (.long ((w2 * (31 : Int64)) + w5.toInt64)), none, some (.int (1 : Int32))]) dL_all_16 (Nat.le_of_ble_eq_true rfl) rfl ?_
  exact l_L_all_b17  jw_FU _ _ _ _ _ _ hq

theorem c_L_all {h : jw_H} {x0 : Option Nat} {r : Int64} {h' : jw_H} (hq : f_L_all h x0 = some (r, h')) : jw_Con (Cond.code yL_all cL_all 4 (some .long)) yL_all 10 [va_rf x0] h (.inl (some (.long r))) h' :=
  jw_con false (plainFor_of_name (by decide +kernel)) (fun z => nomatch z) (by simp [jw_ent, jw_sl0_nil, jw_sl0_int, jw_sl0_long, jw_sl0_ref, jw_sl0_rf, jw_sl0_scr, List.replicate]) (by simp [jw_sl0_nil, jw_sl0_int, jw_sl0_long, jw_sl0_ref, jw_sl0_rf, jw_sl0_scr]) (l_L_all hq)

/-! L_lines -/
abbrev uL_lines : jw_U := (yL_lines.cls, cL_lines, 4, false, (some .long), some [], none)

noncomputable def g_L_lines_b8 (k8 : jw_H → Option Nat → Int64 → Int32 → Option (Int64 × jw_H)) (h : jw_H) (x0 : Option Nat) (x1 : Int64) (x3 : Int32) : Option (Int64 × jw_H) :=
 (jw_rc h 11 x0).bind fun a1 =>
 jw_b2 (f_X11_lines h a1) fun w3 h2 =>
 if w3 < x3 then (some (x1, h2))
 else ((jw_rc h2 11 x0).bind fun a5 =>
 jw_b2 (f_X11_id h2 a5 x3) fun ww7 h6 =>
 jw_iw ww7 fun w7 =>
 (jw_rc h6 11 x0).bind fun a8 =>
 jw_b2 (f_X11_id h6 a8 x3) fun ww10 h9 =>
 jw_iw ww10 fun w10 =>
 (jw_rc h9 11 x0).bind fun a11 =>
 jw_b2 (f_X11_id h9 a11 x3) fun ww13 h12 =>
 jw_iw ww13 fun w13 =>
 (jw_rc h12 11 x0).bind fun a14 =>
 jw_b2 (f_X11_length h12 a14 x3) fun ww16 h15 =>
 jw_iw ww16 fun w16 =>
 k8 h15 x0 (x1 + ((((1000003 : Int64) * w7.toInt64) * w10.toInt64) + (((131 : Int64) * w13.toInt64) * w16.toInt64))) (x3 + (1 : Int32)))

noncomputable def f_L_lines_b8 (n : Nat) : jw_H → Option Nat → Int64 → Int32 → Option (Int64 × jw_H) :=
 Nat.rec (fun _ _ _ _ => none) (fun _ k8 => g_L_lines_b8 k8) n

noncomputable def f_L_lines (h : jw_H) (x0 : Option Nat) : Option (Int64 × jw_H) :=
 (jw_rc h 11 x0).bind fun a1 =>
 jw_b2 (f_X11_lines h a1) fun w3 h2 =>
 f_L_lines_b8  jw_FU h2 x0 w3.toInt64 (1 : Int32)

set_option maxRecDepth 100000 in
set_option maxHeartbeats 4000000 in
theorem l_L_lines_b8g {hi : jw_H} {k8 : jw_H → Option Nat → Int64 → Int32 → Option (Int64 × jw_H)} (hk8 : ∀ (h : jw_H) (x0 : Option Nat) (x1 : Int64) (x3 : Int32) (r : Int64) (h' : jw_H), k8 h x0 x1 x3 = some (r, h') → jw_E 9 uL_lines hi 8 [some (va_rf x0), some (.long x1), none, some (.int x3)] [] h (.inl (some (.long r))) h') {h : jw_H} {x0 : Option Nat} {x1 : Int64} {x3 : Int32} {r : Int64} {h' : jw_H} (hq : g_L_lines_b8 k8 h x0 x1 x3 = some (r, h')) : jw_E 9 uL_lines hi 8 [some (va_rf x0), some (.long x1), none, some (.int x3)] [] h (.inl (some (.long r))) h' := by
  unfold g_L_lines_b8 at hq
  refine jw_iload_n dL_lines_8 rfl ?_
  refine jw_aload_n dL_lines_9 (o := x0) rfl ?_
  obtain ⟨a1, ea1, hq⟩ := Option.bind_eq_some_iff.mp hq
  obtain ⟨eoa1, eta1⟩ := jw_rc_spec ea1
  obtain ⟨w3, h2, ew3, hq⟩ := jw_b2_spec hq
  refine jw_callV (As := []) (S := [.int x3]) (a := a1) (v := some (.int w3)) dL_lines_10 mt_X11_lines in_X11_lines se_X11_lines lk_L_71 (c_X11_lines ew3) eta1 (by decide) rfl rfl (by decide) (Nat.le_of_ble_eq_true rfl) (by cases eoa1; rfl) ?_
  rcases jw_if hq with ⟨c4, hq⟩ | ⟨c4, hq⟩
  · refine jw_icmp_gt_t (tgt := 60) dL_lines_13 (by decide) c4 ?_
    refine jw_lload_n dL_lines_60 rfl ?_
    cases hq
    exact jw_lret dL_lines_61 rfl
  · refine jw_icmp_gt_f (tgt := 60) dL_lines_13 (by decide) c4 ?_
    refine jw_lload_n dL_lines_16 rfl ?_
    refine jw_ldc2 dL_lines_17 cw_L_96 ?_
    refine jw_aload_n dL_lines_20 (o := x0) rfl ?_
    refine jw_iload_n dL_lines_21 rfl ?_
    obtain ⟨a5, ea5, hq⟩ := Option.bind_eq_some_iff.mp hq
    obtain ⟨eoa5, eta5⟩ := jw_rc_spec ea5
    obtain ⟨ww7, h6, ew7, hq⟩ := jw_b2_spec hq
    rcases ww7 with w7 | Ew7
    · replace hq := jw_iw_l hq
      refine jw_callV (As := [.int x3]) (S := [.long (1000003 : Int64), .long x1]) (a := a5) (v := some (.int w7)) dL_lines_22 mt_X11_id in_X11_id se_X11_id lk_L_90 (c_X11_id ew7) eta5 (by decide) rfl rfl (by decide) (Nat.le_of_ble_eq_true rfl) (by cases eoa5; rfl) ?_
      refine jw_i2l dL_lines_25 ?_
      refine jw_lmul dL_lines_26 ?_
      refine jw_aload_n dL_lines_27 (o := x0) rfl ?_
      refine jw_iload_n dL_lines_28 rfl ?_
      obtain ⟨a8, ea8, hq⟩ := Option.bind_eq_some_iff.mp hq
      obtain ⟨eoa8, eta8⟩ := jw_rc_spec ea8
      obtain ⟨ww10, h9, ew10, hq⟩ := jw_b2_spec hq
      rcases ww10 with w10 | Ew10
      · replace hq := jw_iw_l hq
        refine jw_callV (As := [.int x3]) (S := [.long ((1000003 : Int64) * w7.toInt64), .long x1]) (a := a8) (v := some (.int w10)) dL_lines_29 mt_X11_id in_X11_id se_X11_id lk_L_90 (c_X11_id ew10) eta8 (by decide) rfl rfl (by decide) (Nat.le_of_ble_eq_true rfl) (by cases eoa8; rfl) ?_
        refine jw_i2l dL_lines_32 ?_
        refine jw_lmul dL_lines_33 ?_
        refine jw_ldc2 dL_lines_34 cw_L_98 ?_
        refine jw_aload_n dL_lines_37 (o := x0) rfl ?_
        refine jw_iload_n dL_lines_38 rfl ?_
        obtain ⟨a11, ea11, hq⟩ := Option.bind_eq_some_iff.mp hq
        obtain ⟨eoa11, eta11⟩ := jw_rc_spec ea11
        obtain ⟨ww13, h12, ew13, hq⟩ := jw_b2_spec hq
        rcases ww13 with w13 | Ew13
        · replace hq := jw_iw_l hq
          refine jw_callV (As := [.int x3]) (S := [.long (131 : Int64), .long (((1000003 : Int64) * w7.toInt64) * w10.toInt64), .long x1]) (a := a11) (v := some (.int w13)) dL_lines_39 mt_X11_id in_X11_id se_X11_id lk_L_90 (c_X11_id ew13) eta11 (by decide) rfl rfl (by decide) (Nat.le_of_ble_eq_true rfl) (by cases eoa11; rfl) ?_
          refine jw_i2l dL_lines_42 ?_
          refine jw_lmul dL_lines_43 ?_
          refine jw_aload_n dL_lines_44 (o := x0) rfl ?_
          refine jw_iload_n dL_lines_45 rfl ?_
          obtain ⟨a14, ea14, hq⟩ := Option.bind_eq_some_iff.mp hq
          obtain ⟨eoa14, eta14⟩ := jw_rc_spec ea14
          obtain ⟨ww16, h15, ew16, hq⟩ := jw_b2_spec hq
          rcases ww16 with w16 | Ew16
          · replace hq := jw_iw_l hq
            refine jw_callV (As := [.int x3]) (S := [.long ((131 : Int64) * w13.toInt64), .long (((1000003 : Int64) * w7.toInt64) * w10.toInt64), .long x1]) (a := a14) (v := some (.int w16)) dL_lines_46 mt_X11_length in_X11_length se_X11_length lk_L_76 (c_X11_length ew16) eta14 (by decide) rfl rfl (by decide) (Nat.le_of_ble_eq_true rfl) (by cases eoa14; rfl) ?_
            refine jw_i2l dL_lines_49 ?_
            refine jw_lmul dL_lines_50 ?_
            refine jw_ladd dL_lines_51 ?_
            refine jw_ladd dL_lines_52 ?_
            refine jw_lstore_n (L' := [some (va_rf x0), some (.long (x1 + ((((1000003 : Int64) * w7.toInt64) * w10.toInt64) + (((131 : Int64) * w13.toInt64) * w16.toInt64)))), none, some (.int x3)]) dL_lines_53 (Nat.le_of_ble_eq_true rfl) ((jw_st2_of (j := 0) jw_long_rf).trans rfl) ?_
            refine jw_iinc (L' := [some (va_rf x0), some (.long (x1 + ((((1000003 : Int64) * w7.toInt64) * w10.toInt64) + (((131 : Int64) * w13.toInt64) * w16.toInt64)))), none, some (.int (x3 + (1 : Int32)))]) dL_lines_54 rfl (v := (1 : Int32)) (by decide) (Nat.le_of_ble_eq_true rfl) rfl ?_
            refine jw_goto (tgt := 8) dL_lines_57 (by decide) ?_
            exact hk8 _ _ _ _ _ _ hq
          · exact nomatch hq
        · exact nomatch hq
      · exact nomatch hq
    · exact nomatch hq

theorem l_L_lines_b8 {hi : jw_H} : ∀ (n : Nat) (h : jw_H) (x0 : Option Nat) (x1 : Int64) (x3 : Int32) (r : Int64) (h' : jw_H), f_L_lines_b8  n h x0 x1 x3 = some (r, h') → jw_E 9 uL_lines hi 8 [some (va_rf x0), some (.long x1), none, some (.int x3)] [] h (.inl (some (.long r))) h' := by
  intro n
  induction n with
  | zero => intro h x0 x1 x3 r h' hq; exact nomatch hq
  | succ n ih => intro h x0 x1 x3 r h' hq; exact l_L_lines_b8g ih hq

set_option maxRecDepth 100000 in
set_option maxHeartbeats 4000000 in
theorem l_L_lines {hi : jw_H} {h : jw_H} {x0 : Option Nat} {r : Int64} {h' : jw_H} (hq : f_L_lines  h x0 = some (r, h')) : jw_E 9 uL_lines hi 0 [some (va_rf x0), none, none, none] [] h (.inl (some (.long r))) h' := by
  unfold f_L_lines at hq
  refine jw_aload_n dL_lines_0 (o := x0) rfl ?_
  obtain ⟨a1, ea1, hq⟩ := Option.bind_eq_some_iff.mp hq
  obtain ⟨eoa1, eta1⟩ := jw_rc_spec ea1
  obtain ⟨w3, h2, ew3, hq⟩ := jw_b2_spec hq
  refine jw_callV (As := []) (S := []) (a := a1) (v := some (.int w3)) dL_lines_1 mt_X11_lines in_X11_lines se_X11_lines lk_L_71 (c_X11_lines ew3) eta1 (by decide) rfl rfl (by decide) (Nat.le_of_ble_eq_true rfl) (by cases eoa1; rfl) ?_
  refine jw_i2l dL_lines_4 ?_
  refine jw_lstore_n (L' := [some (va_rf x0), some (.long w3.toInt64), none, none]) dL_lines_5 (Nat.le_of_ble_eq_true rfl) ((jw_st2_of (j := 0) jw_long_rf).trans rfl) ?_
  refine jw_iconst dL_lines_6 (v := (1 : Int32)) (by decide) ?_
  refine jw_istore_n (L' := [some (va_rf x0), some (.long w3.toInt64), none, some (.int (1 : Int32))]) dL_lines_7 (Nat.le_of_ble_eq_true rfl) rfl ?_
  exact l_L_lines_b8  jw_FU _ _ _ _ _ _ hq

theorem c_L_lines {h : jw_H} {x0 : Option Nat} {r : Int64} {h' : jw_H} (hq : f_L_lines h x0 = some (r, h')) : jw_Con (Cond.code yL_lines cL_lines 4 (some .long)) yL_lines 9 [va_rf x0] h (.inl (some (.long r))) h' :=
  jw_con false (plainFor_of_name (by decide +kernel)) (fun z => nomatch z) (by simp [jw_ent, jw_sl0_nil, jw_sl0_int, jw_sl0_long, jw_sl0_ref, jw_sl0_rf, jw_sl0_scr, List.replicate]) (by simp [jw_sl0_nil, jw_sl0_int, jw_sl0_long, jw_sl0_ref, jw_sl0_rf, jw_sl0_scr]) (l_L_lines hq)

/-! L_typed -/
abbrev uL_typed : jw_U := (yL_typed.cls, cL_typed, 6, false, (some .boolean), some [], none)

noncomputable def g_L_typed_b41 (k6 : jw_H → Option Nat → Int64 → Int32 → Int32 → Int32 → Option (Int32 × jw_H)) (h : jw_H) (x0 : Option Nat) (x1 : Int64) (x3 : Int32) (x5 : Int32) (t0 : Int32) : Option (Int32 × jw_H) :=
 k6 h x0 x1 x3 t0 (x5 + (1 : Int32))

noncomputable def g_L_typed_b40 (k6 : jw_H → Option Nat → Int64 → Int32 → Int32 → Int32 → Option (Int32 × jw_H)) (h : jw_H) (x0 : Option Nat) (x1 : Int64) (x3 : Int32) (x5 : Int32) : Option (Int32 × jw_H) :=
 g_L_typed_b41 k6 h x0 x1 x3 x5 (0 : Int32)

noncomputable def g_L_typed_b6 (k6 : jw_H → Option Nat → Int64 → Int32 → Int32 → Int32 → Option (Int32 × jw_H)) (h : jw_H) (x0 : Option Nat) (x1 : Int64) (x3 : Int32) (x4 : Int32) (x5 : Int32) : Option (Int32 × jw_H) :=
 if x3 ≤ x5 then ((jw_rb x4).bind fun v2 =>
 some (x4, h))
 else (if x4 = 0 then (g_L_typed_b40 k6 h x0 x1 x3 x5)
 else ((jw_rc h 11 x0).bind fun a4 =>
 jw_b2 (f_X11_type h a4 ((x1 >>> (((7 : Int32) * x5).toInt64 &&& 63)) &&& (127 : Int64)).toInt32) fun ww6 h5 =>
 jw_iw ww6 fun w6 =>
 if w6 ≤ 0 then (g_L_typed_b40 k6 h5 x0 x1 x3 x5)
 else (g_L_typed_b41 k6 h5 x0 x1 x3 x5 (1 : Int32))))

noncomputable def f_L_typed_b6 (n : Nat) : jw_H → Option Nat → Int64 → Int32 → Int32 → Int32 → Option (Int32 × jw_H) :=
 Nat.rec (fun _ _ _ _ _ _ => none) (fun _ k6 => g_L_typed_b6 k6) n

noncomputable def f_L_typed (h : jw_H) (x0 : Option Nat) (x1 : Int64) (x3 : Int32) : Option (Int32 × jw_H) :=
 f_L_typed_b6  jw_FU h x0 x1 x3 (1 : Int32) (0 : Int32)

set_option maxRecDepth 100000 in
set_option maxHeartbeats 4000000 in
theorem l_L_typed_b41 {hi : jw_H} {k6 : jw_H → Option Nat → Int64 → Int32 → Int32 → Int32 → Option (Int32 × jw_H)} (hk6 : ∀ (h : jw_H) (x0 : Option Nat) (x1 : Int64) (x3 : Int32) (x4 : Int32) (x5 : Int32) (r : Int32) (h' : jw_H), k6 h x0 x1 x3 x4 x5 = some (r, h') → jw_E 9 uL_typed hi 6 [some (va_rf x0), some (.long x1), none, some (.int x3), some (.int x4), some (.int x5)] [] h (.inl (some (.int r))) h') {h : jw_H} {x0 : Option Nat} {x1 : Int64} {x3 : Int32} {x5 : Int32} {t0 : Int32} {r : Int32} {h' : jw_H} (hq : g_L_typed_b41 k6 h x0 x1 x3 x5 t0 = some (r, h')) : jw_E 9 uL_typed hi 41 [some (va_rf x0), some (.long x1), none, some (.int x3), none, some (.int x5)] [.int t0] h (.inl (some (.int r))) h' := by
  unfold g_L_typed_b41 at hq
  refine jw_istore (L' := [some (va_rf x0), some (.long x1), none, some (.int x3), some (.int t0), some (.int x5)]) dL_typed_41 (Nat.le_of_ble_eq_true rfl) rfl ?_
  refine jw_iinc (L' := [some (va_rf x0), some (.long x1), none, some (.int x3), some (.int t0), some (.int (x5 + (1 : Int32)))]) dL_typed_43 rfl (v := (1 : Int32)) (by decide) (Nat.le_of_ble_eq_true rfl) rfl ?_
  refine jw_goto (tgt := 6) dL_typed_46 (by decide) ?_
  exact hk6 _ _ _ _ _ _ _ _ hq

set_option maxRecDepth 100000 in
set_option maxHeartbeats 4000000 in
theorem l_L_typed_b40 {hi : jw_H} {k6 : jw_H → Option Nat → Int64 → Int32 → Int32 → Int32 → Option (Int32 × jw_H)} (hk6 : ∀ (h : jw_H) (x0 : Option Nat) (x1 : Int64) (x3 : Int32) (x4 : Int32) (x5 : Int32) (r : Int32) (h' : jw_H), k6 h x0 x1 x3 x4 x5 = some (r, h') → jw_E 9 uL_typed hi 6 [some (va_rf x0), some (.long x1), none, some (.int x3), some (.int x4), some (.int x5)] [] h (.inl (some (.int r))) h') {h : jw_H} {x0 : Option Nat} {x1 : Int64} {x3 : Int32} {x5 : Int32} {r : Int32} {h' : jw_H} (hq : g_L_typed_b40 k6 h x0 x1 x3 x5 = some (r, h')) : jw_E 9 uL_typed hi 40 [some (va_rf x0), some (.long x1), none, some (.int x3), none, some (.int x5)] [] h (.inl (some (.int r))) h' := by
  unfold g_L_typed_b40 at hq
  refine jw_iconst dL_typed_40 (v := (0 : Int32)) (by decide) ?_
  exact l_L_typed_b41 hk6 hq

set_option maxRecDepth 100000 in
set_option maxHeartbeats 4000000 in
theorem l_L_typed_b6g {hi : jw_H} {k6 : jw_H → Option Nat → Int64 → Int32 → Int32 → Int32 → Option (Int32 × jw_H)} (hk6 : ∀ (h : jw_H) (x0 : Option Nat) (x1 : Int64) (x3 : Int32) (x4 : Int32) (x5 : Int32) (r : Int32) (h' : jw_H), k6 h x0 x1 x3 x4 x5 = some (r, h') → jw_E 9 uL_typed hi 6 [some (va_rf x0), some (.long x1), none, some (.int x3), some (.int x4), some (.int x5)] [] h (.inl (some (.int r))) h') {h : jw_H} {x0 : Option Nat} {x1 : Int64} {x3 : Int32} {x4 : Int32} {x5 : Int32} {r : Int32} {h' : jw_H} (hq : g_L_typed_b6 k6 h x0 x1 x3 x4 x5 = some (r, h')) : jw_E 9 uL_typed hi 6 [some (va_rf x0), some (.long x1), none, some (.int x3), some (.int x4), some (.int x5)] [] h (.inl (some (.int r))) h' := by
  unfold g_L_typed_b6 at hq
  refine jw_iload dL_typed_6 rfl ?_
  refine jw_iload_n dL_typed_8 rfl ?_
  rcases jw_if hq with ⟨c1, hq⟩ | ⟨c1, hq⟩
  · refine jw_icmp_ge_t (tgt := 49) dL_typed_9 (by decide) c1 ?_
    refine jw_iload dL_typed_49 rfl ?_
    obtain ⟨v2, ev2, hq⟩ := Option.bind_eq_some_iff.mp hq
    cases hq
    exact jw_iret (ty := .boolean) dL_typed_51 rfl (jw_rb_spec ev2)
  · refine jw_icmp_ge_f (tgt := 49) dL_typed_9 (by decide) c1 ?_
    refine jw_iload dL_typed_12 rfl ?_
    rcases jw_if hq with ⟨c3, hq⟩ | ⟨c3, hq⟩
    · refine jw_if_eq_t (tgt := 40) dL_typed_14 (by decide) c3 ?_
      refine jw_forget [true, true, true, true, false, true] (L' := [some (va_rf x0), some (.long x1), none, some (.int x3), none, some (.int x5)]) rfl ?_
      exact l_L_typed_b40 hk6 hq
    · refine jw_if_eq_f (tgt := 40) dL_typed_14 (by decide) c3 ?_
      refine jw_aload_n dL_typed_17 (o := x0) rfl ?_
      refine jw_lload_n dL_typed_18 rfl ?_
      refine jw_bipush dL_typed_19 (v := (7 : Int32)) (by decide) ?_
      refine jw_iload dL_typed_21 rfl ?_
      refine jw_imul dL_typed_23 ?_
      refine jw_lshr dL_typed_24 ?_
      refine jw_ldc2 dL_typed_25 cw_L_9 ?_
      refine jw_land dL_typed_28 ?_
      refine jw_l2i dL_typed_29 ?_
      obtain ⟨a4, ea4, hq⟩ := Option.bind_eq_some_iff.mp hq
      obtain ⟨eoa4, eta4⟩ := jw_rc_spec ea4
      obtain ⟨ww6, h5, ew6, hq⟩ := jw_b2_spec hq
      rcases ww6 with w6 | Ew6
      · replace hq := jw_iw_l hq
        refine jw_callV (As := [.int ((x1 >>> (((7 : Int32) * x5).toInt64 &&& 63)) &&& (127 : Int64)).toInt32]) (S := []) (a := a4) (v := some (.int w6)) dL_typed_30 mt_X11_type in_X11_type se_X11_type lk_L_11 (c_X11_type ew6) eta4 (by decide) rfl rfl (by decide) (Nat.le_of_ble_eq_true rfl) (by cases eoa4; rfl) ?_
        rcases jw_if hq with ⟨c7, hq⟩ | ⟨c7, hq⟩
        · refine jw_if_le_t (tgt := 40) dL_typed_33 (by decide) c7 ?_
          refine jw_forget [true, true, true, true, false, true] (L' := [some (va_rf x0), some (.long x1), none, some (.int x3), none, some (.int x5)]) rfl ?_
          exact l_L_typed_b40 hk6 hq
        · refine jw_if_le_f (tgt := 40) dL_typed_33 (by decide) c7 ?_
          refine jw_iconst dL_typed_36 (v := (1 : Int32)) (by decide) ?_
          refine jw_goto (tgt := 41) dL_typed_37 (by decide) ?_
          refine jw_forget [true, true, true, true, false, true] (L' := [some (va_rf x0), some (.long x1), none, some (.int x3), none, some (.int x5)]) rfl ?_
          exact l_L_typed_b41 hk6 hq
      · exact nomatch hq

theorem l_L_typed_b6 {hi : jw_H} : ∀ (n : Nat) (h : jw_H) (x0 : Option Nat) (x1 : Int64) (x3 : Int32) (x4 : Int32) (x5 : Int32) (r : Int32) (h' : jw_H), f_L_typed_b6  n h x0 x1 x3 x4 x5 = some (r, h') → jw_E 9 uL_typed hi 6 [some (va_rf x0), some (.long x1), none, some (.int x3), some (.int x4), some (.int x5)] [] h (.inl (some (.int r))) h' := by
  intro n
  induction n with
  | zero => intro h x0 x1 x3 x4 x5 r h' hq; exact nomatch hq
  | succ n ih => intro h x0 x1 x3 x4 x5 r h' hq; exact l_L_typed_b6g ih hq

set_option maxRecDepth 100000 in
set_option maxHeartbeats 4000000 in
theorem l_L_typed {hi : jw_H} {h : jw_H} {x0 : Option Nat} {x1 : Int64} {x3 : Int32} {r : Int32} {h' : jw_H} (hq : f_L_typed  h x0 x1 x3 = some (r, h')) : jw_E 9 uL_typed hi 0 [some (va_rf x0), some (.long x1), none, some (.int x3), none, none] [] h (.inl (some (.int r))) h' := by
  unfold f_L_typed at hq
  refine jw_iconst dL_typed_0 (v := (1 : Int32)) (by decide) ?_
  refine jw_istore (L' := [some (va_rf x0), some (.long x1), none, some (.int x3), some (.int (1 : Int32)), none]) dL_typed_1 (Nat.le_of_ble_eq_true rfl) rfl ?_
  refine jw_iconst dL_typed_3 (v := (0 : Int32)) (by decide) ?_
  refine jw_istore (L' := [some (va_rf x0), some (.long x1), none, some (.int x3), some (.int (1 : Int32)), some (.int (0 : Int32))]) dL_typed_4 (Nat.le_of_ble_eq_true rfl) rfl ?_
  exact l_L_typed_b6  jw_FU _ _ _ _ _ _ _ _ hq

theorem c_L_typed {h : jw_H} {x0 : Option Nat} {x1 : Int64} {x3 : Int32} {r : Int32} {h' : jw_H} (hq : f_L_typed h x0 x1 x3 = some (r, h')) : jw_Con (Cond.code yL_typed cL_typed 6 (some .boolean)) yL_typed 9 [va_rf x0, .long x1, .int x3] h (.inl (some (.int r))) h' :=
  jw_con false (plainFor_of_name (by decide +kernel)) (fun z => nomatch z) (by simp [jw_ent, jw_sl0_nil, jw_sl0_int, jw_sl0_long, jw_sl0_ref, jw_sl0_rf, jw_sl0_scr, List.replicate]) (by simp [jw_sl0_nil, jw_sl0_int, jw_sl0_long, jw_sl0_ref, jw_sl0_rf, jw_sl0_scr]) (l_L_typed hq)

/-! L_types -/
abbrev uL_types : jw_U := (yL_types.cls, cL_types, 3, false, (some .boolean), some [], none)

noncomputable def g_L_types_b121 (h : jw_H) (t0 : Int32) : Option (Int32 × jw_H) :=
 (jw_rb t0).bind fun v1 =>
 some (t0, h)

noncomputable def g_L_types_b120 (h : jw_H)  : Option (Int32 × jw_H) :=
 g_L_types_b121  h (0 : Int32)

noncomputable def g_L_types_b142 (h : jw_H) (t0 : Int32) : Option (Int32 × jw_H) :=
 (jw_rb t0).bind fun v1 =>
 some (t0, h)

noncomputable def g_L_types_b141 (h : jw_H)  : Option (Int32 × jw_H) :=
 g_L_types_b142  h (0 : Int32)

noncomputable def g_L_types_b163 (h : jw_H) (t0 : Int32) : Option (Int32 × jw_H) :=
 (jw_rb t0).bind fun v1 =>
 some (t0, h)

noncomputable def g_L_types_b162 (h : jw_H)  : Option (Int32 × jw_H) :=
 g_L_types_b163  h (0 : Int32)

noncomputable def g_L_types_b184 (h : jw_H) (t0 : Int32) : Option (Int32 × jw_H) :=
 (jw_rb t0).bind fun v1 =>
 some (t0, h)

noncomputable def g_L_types_b183 (h : jw_H)  : Option (Int32 × jw_H) :=
 g_L_types_b184  h (0 : Int32)

noncomputable def g_L_types_b205 (h : jw_H) (t0 : Int32) : Option (Int32 × jw_H) :=
 (jw_rb t0).bind fun v1 =>
 some (t0, h)

noncomputable def g_L_types_b204 (h : jw_H)  : Option (Int32 × jw_H) :=
 g_L_types_b205  h (0 : Int32)

noncomputable def g_L_types_b226 (h : jw_H) (t0 : Int32) : Option (Int32 × jw_H) :=
 (jw_rb t0).bind fun v1 =>
 some (t0, h)

noncomputable def g_L_types_b225 (h : jw_H)  : Option (Int32 × jw_H) :=
 g_L_types_b226  h (0 : Int32)

noncomputable def g_L_types_b247 (h : jw_H) (t0 : Int32) : Option (Int32 × jw_H) :=
 (jw_rb t0).bind fun v1 =>
 some (t0, h)

noncomputable def g_L_types_b246 (h : jw_H)  : Option (Int32 × jw_H) :=
 g_L_types_b247  h (0 : Int32)

noncomputable def g_L_types_b268 (h : jw_H) (t0 : Int32) : Option (Int32 × jw_H) :=
 (jw_rb t0).bind fun v1 =>
 some (t0, h)

noncomputable def g_L_types_b267 (h : jw_H)  : Option (Int32 × jw_H) :=
 g_L_types_b268  h (0 : Int32)

noncomputable def g_L_types_b301 (h : jw_H) (t0 : Int32) : Option (Int32 × jw_H) :=
 (jw_rb t0).bind fun v1 =>
 some (t0, h)

noncomputable def g_L_types_b300 (h : jw_H)  : Option (Int32 × jw_H) :=
 g_L_types_b301  h (0 : Int32)

noncomputable def g_L_types_b322 (h : jw_H) (t0 : Int32) : Option (Int32 × jw_H) :=
 (jw_rb t0).bind fun v1 =>
 some (t0, h)

noncomputable def g_L_types_b321 (h : jw_H)  : Option (Int32 × jw_H) :=
 g_L_types_b322  h (0 : Int32)

noncomputable def g_L_types_b343 (h : jw_H) (t0 : Int32) : Option (Int32 × jw_H) :=
 (jw_rb t0).bind fun v1 =>
 some (t0, h)

noncomputable def g_L_types_b342 (h : jw_H)  : Option (Int32 × jw_H) :=
 g_L_types_b343  h (0 : Int32)

noncomputable def g_L_types_b365 (h : jw_H) (t0 : Int32) : Option (Int32 × jw_H) :=
 (jw_rb t0).bind fun v1 =>
 some (t0, h)

noncomputable def g_L_types_b364 (h : jw_H)  : Option (Int32 × jw_H) :=
 g_L_types_b365  h (0 : Int32)

noncomputable def g_L_types_b386 (h : jw_H) (t0 : Int32) : Option (Int32 × jw_H) :=
 (jw_rb t0).bind fun v1 =>
 some (t0, h)

noncomputable def g_L_types_b385 (h : jw_H)  : Option (Int32 × jw_H) :=
 g_L_types_b386  h (0 : Int32)

noncomputable def g_L_types_b407 (h : jw_H) (t0 : Int32) : Option (Int32 × jw_H) :=
 (jw_rb t0).bind fun v1 =>
 some (t0, h)

noncomputable def g_L_types_b406 (h : jw_H)  : Option (Int32 × jw_H) :=
 g_L_types_b407  h (0 : Int32)

noncomputable def g_L_types_b440 (h : jw_H) (t0 : Int32) : Option (Int32 × jw_H) :=
 (jw_rb t0).bind fun v1 =>
 some (t0, h)

noncomputable def g_L_types_b439 (h : jw_H)  : Option (Int32 × jw_H) :=
 g_L_types_b440  h (0 : Int32)

noncomputable def g_L_types_b462 (h : jw_H) (t0 : Int32) : Option (Int32 × jw_H) :=
 (jw_rb t0).bind fun v1 =>
 some (t0, h)

noncomputable def g_L_types_b461 (h : jw_H)  : Option (Int32 × jw_H) :=
 g_L_types_b462  h (0 : Int32)

noncomputable def g_L_types_b483 (h : jw_H) (t0 : Int32) : Option (Int32 × jw_H) :=
 (jw_rb t0).bind fun v1 =>
 some (t0, h)

noncomputable def g_L_types_b482 (h : jw_H)  : Option (Int32 × jw_H) :=
 g_L_types_b483  h (0 : Int32)

noncomputable def g_L_types_b504 (h : jw_H) (t0 : Int32) : Option (Int32 × jw_H) :=
 (jw_rb t0).bind fun v1 =>
 some (t0, h)

noncomputable def g_L_types_b503 (h : jw_H)  : Option (Int32 × jw_H) :=
 g_L_types_b504  h (0 : Int32)

noncomputable def g_L_types_b526 (h : jw_H) (t0 : Int32) : Option (Int32 × jw_H) :=
 (jw_rb t0).bind fun v1 =>
 some (t0, h)

noncomputable def g_L_types_b525 (h : jw_H)  : Option (Int32 × jw_H) :=
 g_L_types_b526  h (0 : Int32)

noncomputable def g_L_types_b12 (h : jw_H) (x0 : Option Nat) (x1 : Int32) (t0 : Int32) : Option (Int32 × jw_H) :=
 if x1 = (0 : Int32) then (if t0 = 0 then (g_L_types_b120  h )
 else (jw_b2 (f_L_typed h x0 (7448825222350502309 : Int64) (9 : Int32)) fun w4 h3 =>
 if w4 = 0 then (g_L_types_b120  h3 )
 else (g_L_types_b121  h3 (1 : Int32))))
 else (if x1 = (1 : Int32) then (if t0 = 0 then (g_L_types_b141  h )
 else (jw_b2 (f_L_typed h x0 (26943723495 : Int64) (5 : Int32)) fun w9 h8 =>
 if w9 = 0 then (g_L_types_b141  h8 )
 else (g_L_types_b142  h8 (1 : Int32))))
 else (if x1 = (2 : Int32) then (if t0 = 0 then (g_L_types_b162  h )
 else (jw_b2 (f_L_typed h x0 (9893090865 : Int64) (5 : Int32)) fun w14 h13 =>
 if w14 = 0 then (g_L_types_b162  h13 )
 else (g_L_types_b163  h13 (1 : Int32))))
 else (if x1 = (3 : Int32) then (if t0 = 0 then (g_L_types_b183  h )
 else (jw_b2 (f_L_typed h x0 (817061 : Int64) (3 : Int32)) fun w19 h18 =>
 if w19 = 0 then (g_L_types_b183  h18 )
 else (g_L_types_b184  h18 (1 : Int32))))
 else (if x1 = (4 : Int32) then (if t0 = 0 then (g_L_types_b204  h )
 else (jw_b2 (f_L_typed h x0 (850725 : Int64) (3 : Int32)) fun w24 h23 =>
 if w24 = 0 then (g_L_types_b204  h23 )
 else (g_L_types_b205  h23 (1 : Int32))))
 else (if x1 = (5 : Int32) then (if t0 = 0 then (g_L_types_b225  h )
 else (jw_b2 (f_L_typed h x0 (13861 : Int64) (2 : Int32)) fun w29 h28 =>
 if w29 = 0 then (g_L_types_b225  h28 )
 else (g_L_types_b226  h28 (1 : Int32))))
 else (if x1 = (6 : Int32) then (if t0 = 0 then (g_L_types_b246  h )
 else (jw_b2 (f_L_typed h x0 (223122993 : Int64) (4 : Int32)) fun w34 h33 =>
 if w34 = 0 then (g_L_types_b246  h33 )
 else (g_L_types_b247  h33 (1 : Int32))))
 else (if x1 = (7 : Int32) then (if t0 = 0 then (g_L_types_b267  h )
 else (jw_b2 (f_L_typed h x0 (604721 : Int64) (3 : Int32)) fun w39 h38 =>
 if w39 = 0 then (g_L_types_b267  h38 )
 else (g_L_types_b268  h38 (1 : Int32))))
 else (if x1 = (8 : Int32) then (if t0 = 0 then (g_L_types_b300  h )
 else (jw_b2 (f_L_typed h x0 (7743594277010692039 : Int64) (9 : Int32)) fun w44 h43 =>
 if w44 = 0 then (g_L_types_b300  h43 )
 else (jw_b2 (f_L_typed h43 x0 (16097 : Int64) (2 : Int32)) fun w47 h46 =>
 if w47 = 0 then (g_L_types_b300  h46 )
 else (g_L_types_b301  h46 (1 : Int32)))))
 else (if x1 = (9 : Int32) then (if t0 = 0 then (g_L_types_b321  h )
 else (jw_b2 (f_L_typed h x0 (12965 : Int64) (2 : Int32)) fun w52 h51 =>
 if w52 = 0 then (g_L_types_b321  h51 )
 else (g_L_types_b322  h51 (1 : Int32))))
 else (if x1 = (10 : Int32) then (if t0 = 0 then (g_L_types_b342  h )
 else (jw_b2 (f_L_typed h x0 (13349 : Int64) (2 : Int32)) fun w57 h56 =>
 if w57 = 0 then (g_L_types_b342  h56 )
 else (g_L_types_b343  h56 (1 : Int32))))
 else (if x1 = (11 : Int32) then (if t0 = 0 then (g_L_types_b364  h )
 else (jw_b2 (f_L_typed h x0 (8861365562411636274 : Int64) (9 : Int32)) fun w62 h61 =>
 if w62 = 0 then (g_L_types_b364  h61 )
 else (g_L_types_b365  h61 (1 : Int32))))
 else (if x1 = (12 : Int32) then (if t0 = 0 then (g_L_types_b385  h )
 else (jw_b2 (f_L_typed h x0 (1646030 : Int64) (3 : Int32)) fun w67 h66 =>
 if w67 = 0 then (g_L_types_b385  h66 )
 else (g_L_types_b386  h66 (1 : Int32))))
 else (if x1 = (13 : Int32) then (if t0 = 0 then (g_L_types_b406  h )
 else (jw_b2 (f_L_typed h x0 (210759871 : Int64) (4 : Int32)) fun w72 h71 =>
 if w72 = 0 then (g_L_types_b406  h71 )
 else (g_L_types_b407  h71 (1 : Int32))))
 else (if x1 = (14 : Int32) then (if t0 = 0 then (g_L_types_b439  h )
 else (jw_b2 (f_L_typed h x0 (3407405772541833007 : Int64) (9 : Int32)) fun w77 h76 =>
 if w77 = 0 then (g_L_types_b439  h76 )
 else (jw_b2 (f_L_typed h76 x0 (6115 : Int64) (2 : Int32)) fun w80 h79 =>
 if w80 = 0 then (g_L_types_b439  h79 )
 else (g_L_types_b440  h79 (1 : Int32)))))
 else (if x1 = (15 : Int32) then (if t0 = 0 then (g_L_types_b461  h )
 else (jw_b2 (f_L_typed h x0 (439096374470565 : Int64) (7 : Int32)) fun w85 h84 =>
 if w85 = 0 then (g_L_types_b461  h84 )
 else (g_L_types_b462  h84 (1 : Int32))))
 else (if x1 = (16 : Int32) then (if t0 = 0 then (g_L_types_b482  h )
 else (jw_b2 (f_L_typed h x0 (117 : Int64) (1 : Int32)) fun w90 h89 =>
 if w90 = 0 then (g_L_types_b482  h89 )
 else (g_L_types_b483  h89 (1 : Int32))))
 else (if x1 = (17 : Int32) then (if t0 = 0 then (g_L_types_b503  h )
 else (jw_b2 (f_L_typed h x0 (13489 : Int64) (2 : Int32)) fun w95 h94 =>
 if w95 = 0 then (g_L_types_b503  h94 )
 else (g_L_types_b504  h94 (1 : Int32))))
 else (if t0 = 0 then (g_L_types_b525  h )
 else (jw_b2 (f_L_typed h x0 (3789327980196 : Int64) (6 : Int32)) fun w99 h98 =>
 if w99 = 0 then (g_L_types_b525  h98 )
 else (g_L_types_b526  h98 (1 : Int32)))))))))))))))))))))

noncomputable def f_L_types (h : jw_H) (x0 : Option Nat) (x1 : Int32) : Option (Int32 × jw_H) :=
 (jw_rc h 11 x0).bind fun a1 =>
 jw_b2 (f_X11_wipe h a1) fun w3 h2 =>
 if w3 < 0 then (g_L_types_b12  h2 x0 x1 (0 : Int32))
 else (g_L_types_b12  h2 x0 x1 (1 : Int32))

set_option maxRecDepth 100000 in
set_option maxHeartbeats 4000000 in
theorem l_L_types_b121 {hi : jw_H} {h : jw_H} {t0 : Int32} {r : Int32} {h' : jw_H} (hq : g_L_types_b121  h t0 = some (r, h')) : jw_E 10 uL_types hi 121 [none, none, none] [.int t0] h (.inl (some (.int r))) h' := by
  unfold g_L_types_b121 at hq
  obtain ⟨v1, ev1, hq⟩ := Option.bind_eq_some_iff.mp hq
  cases hq
  exact jw_iret (ty := .boolean) dL_types_121 rfl (jw_rb_spec ev1)

set_option maxRecDepth 100000 in
set_option maxHeartbeats 4000000 in
theorem l_L_types_b120 {hi : jw_H} {h : jw_H}  {r : Int32} {h' : jw_H} (hq : g_L_types_b120  h  = some (r, h')) : jw_E 10 uL_types hi 120 [none, none, none] [] h (.inl (some (.int r))) h' := by
  unfold g_L_types_b120 at hq
  refine jw_iconst dL_types_120 (v := (0 : Int32)) (by decide) ?_
  exact l_L_types_b121  hq

set_option maxRecDepth 100000 in
set_option maxHeartbeats 4000000 in
theorem l_L_types_b142 {hi : jw_H} {h : jw_H} {t0 : Int32} {r : Int32} {h' : jw_H} (hq : g_L_types_b142  h t0 = some (r, h')) : jw_E 10 uL_types hi 142 [none, none, none] [.int t0] h (.inl (some (.int r))) h' := by
  unfold g_L_types_b142 at hq
  obtain ⟨v1, ev1, hq⟩ := Option.bind_eq_some_iff.mp hq
  cases hq
  exact jw_iret (ty := .boolean) dL_types_142 rfl (jw_rb_spec ev1)

set_option maxRecDepth 100000 in
set_option maxHeartbeats 4000000 in
theorem l_L_types_b141 {hi : jw_H} {h : jw_H}  {r : Int32} {h' : jw_H} (hq : g_L_types_b141  h  = some (r, h')) : jw_E 10 uL_types hi 141 [none, none, none] [] h (.inl (some (.int r))) h' := by
  unfold g_L_types_b141 at hq
  refine jw_iconst dL_types_141 (v := (0 : Int32)) (by decide) ?_
  exact l_L_types_b142  hq

set_option maxRecDepth 100000 in
set_option maxHeartbeats 4000000 in
theorem l_L_types_b163 {hi : jw_H} {h : jw_H} {t0 : Int32} {r : Int32} {h' : jw_H} (hq : g_L_types_b163  h t0 = some (r, h')) : jw_E 10 uL_types hi 163 [none, none, none] [.int t0] h (.inl (some (.int r))) h' := by
  unfold g_L_types_b163 at hq
  obtain ⟨v1, ev1, hq⟩ := Option.bind_eq_some_iff.mp hq
  cases hq
  exact jw_iret (ty := .boolean) dL_types_163 rfl (jw_rb_spec ev1)

set_option maxRecDepth 100000 in
set_option maxHeartbeats 4000000 in
theorem l_L_types_b162 {hi : jw_H} {h : jw_H}  {r : Int32} {h' : jw_H} (hq : g_L_types_b162  h  = some (r, h')) : jw_E 10 uL_types hi 162 [none, none, none] [] h (.inl (some (.int r))) h' := by
  unfold g_L_types_b162 at hq
  refine jw_iconst dL_types_162 (v := (0 : Int32)) (by decide) ?_
  exact l_L_types_b163  hq

set_option maxRecDepth 100000 in
set_option maxHeartbeats 4000000 in
theorem l_L_types_b184 {hi : jw_H} {h : jw_H} {t0 : Int32} {r : Int32} {h' : jw_H} (hq : g_L_types_b184  h t0 = some (r, h')) : jw_E 10 uL_types hi 184 [none, none, none] [.int t0] h (.inl (some (.int r))) h' := by
  unfold g_L_types_b184 at hq
  obtain ⟨v1, ev1, hq⟩ := Option.bind_eq_some_iff.mp hq
  cases hq
  exact jw_iret (ty := .boolean) dL_types_184 rfl (jw_rb_spec ev1)

set_option maxRecDepth 100000 in
set_option maxHeartbeats 4000000 in
theorem l_L_types_b183 {hi : jw_H} {h : jw_H}  {r : Int32} {h' : jw_H} (hq : g_L_types_b183  h  = some (r, h')) : jw_E 10 uL_types hi 183 [none, none, none] [] h (.inl (some (.int r))) h' := by
  unfold g_L_types_b183 at hq
  refine jw_iconst dL_types_183 (v := (0 : Int32)) (by decide) ?_
  exact l_L_types_b184  hq

set_option maxRecDepth 100000 in
set_option maxHeartbeats 4000000 in
theorem l_L_types_b205 {hi : jw_H} {h : jw_H} {t0 : Int32} {r : Int32} {h' : jw_H} (hq : g_L_types_b205  h t0 = some (r, h')) : jw_E 10 uL_types hi 205 [none, none, none] [.int t0] h (.inl (some (.int r))) h' := by
  unfold g_L_types_b205 at hq
  obtain ⟨v1, ev1, hq⟩ := Option.bind_eq_some_iff.mp hq
  cases hq
  exact jw_iret (ty := .boolean) dL_types_205 rfl (jw_rb_spec ev1)

set_option maxRecDepth 100000 in
set_option maxHeartbeats 4000000 in
theorem l_L_types_b204 {hi : jw_H} {h : jw_H}  {r : Int32} {h' : jw_H} (hq : g_L_types_b204  h  = some (r, h')) : jw_E 10 uL_types hi 204 [none, none, none] [] h (.inl (some (.int r))) h' := by
  unfold g_L_types_b204 at hq
  refine jw_iconst dL_types_204 (v := (0 : Int32)) (by decide) ?_
  exact l_L_types_b205  hq

set_option maxRecDepth 100000 in
set_option maxHeartbeats 4000000 in
theorem l_L_types_b226 {hi : jw_H} {h : jw_H} {t0 : Int32} {r : Int32} {h' : jw_H} (hq : g_L_types_b226  h t0 = some (r, h')) : jw_E 10 uL_types hi 226 [none, none, none] [.int t0] h (.inl (some (.int r))) h' := by
  unfold g_L_types_b226 at hq
  obtain ⟨v1, ev1, hq⟩ := Option.bind_eq_some_iff.mp hq
  cases hq
  exact jw_iret (ty := .boolean) dL_types_226 rfl (jw_rb_spec ev1)

set_option maxRecDepth 100000 in
set_option maxHeartbeats 4000000 in
theorem l_L_types_b225 {hi : jw_H} {h : jw_H}  {r : Int32} {h' : jw_H} (hq : g_L_types_b225  h  = some (r, h')) : jw_E 10 uL_types hi 225 [none, none, none] [] h (.inl (some (.int r))) h' := by
  unfold g_L_types_b225 at hq
  refine jw_iconst dL_types_225 (v := (0 : Int32)) (by decide) ?_
  exact l_L_types_b226  hq

set_option maxRecDepth 100000 in
set_option maxHeartbeats 4000000 in
theorem l_L_types_b247 {hi : jw_H} {h : jw_H} {t0 : Int32} {r : Int32} {h' : jw_H} (hq : g_L_types_b247  h t0 = some (r, h')) : jw_E 10 uL_types hi 247 [none, none, none] [.int t0] h (.inl (some (.int r))) h' := by
  unfold g_L_types_b247 at hq
  obtain ⟨v1, ev1, hq⟩ := Option.bind_eq_some_iff.mp hq
  cases hq
  exact jw_iret (ty := .boolean) dL_types_247 rfl (jw_rb_spec ev1)

set_option maxRecDepth 100000 in
set_option maxHeartbeats 4000000 in
theorem l_L_types_b246 {hi : jw_H} {h : jw_H}  {r : Int32} {h' : jw_H} (hq : g_L_types_b246  h  = some (r, h')) : jw_E 10 uL_types hi 246 [none, none, none] [] h (.inl (some (.int r))) h' := by
  unfold g_L_types_b246 at hq
  refine jw_iconst dL_types_246 (v := (0 : Int32)) (by decide) ?_
  exact l_L_types_b247  hq

set_option maxRecDepth 100000 in
set_option maxHeartbeats 4000000 in
theorem l_L_types_b268 {hi : jw_H} {h : jw_H} {t0 : Int32} {r : Int32} {h' : jw_H} (hq : g_L_types_b268  h t0 = some (r, h')) : jw_E 10 uL_types hi 268 [none, none, none] [.int t0] h (.inl (some (.int r))) h' := by
  unfold g_L_types_b268 at hq
  obtain ⟨v1, ev1, hq⟩ := Option.bind_eq_some_iff.mp hq
  cases hq
  exact jw_iret (ty := .boolean) dL_types_268 rfl (jw_rb_spec ev1)

set_option maxRecDepth 100000 in
set_option maxHeartbeats 4000000 in
theorem l_L_types_b267 {hi : jw_H} {h : jw_H}  {r : Int32} {h' : jw_H} (hq : g_L_types_b267  h  = some (r, h')) : jw_E 10 uL_types hi 267 [none, none, none] [] h (.inl (some (.int r))) h' := by
  unfold g_L_types_b267 at hq
  refine jw_iconst dL_types_267 (v := (0 : Int32)) (by decide) ?_
  exact l_L_types_b268  hq

set_option maxRecDepth 100000 in
set_option maxHeartbeats 4000000 in
theorem l_L_types_b301 {hi : jw_H} {h : jw_H} {t0 : Int32} {r : Int32} {h' : jw_H} (hq : g_L_types_b301  h t0 = some (r, h')) : jw_E 10 uL_types hi 301 [none, none, none] [.int t0] h (.inl (some (.int r))) h' := by
  unfold g_L_types_b301 at hq
  obtain ⟨v1, ev1, hq⟩ := Option.bind_eq_some_iff.mp hq
  cases hq
  exact jw_iret (ty := .boolean) dL_types_301 rfl (jw_rb_spec ev1)

set_option maxRecDepth 100000 in
set_option maxHeartbeats 4000000 in
theorem l_L_types_b300 {hi : jw_H} {h : jw_H}  {r : Int32} {h' : jw_H} (hq : g_L_types_b300  h  = some (r, h')) : jw_E 10 uL_types hi 300 [none, none, none] [] h (.inl (some (.int r))) h' := by
  unfold g_L_types_b300 at hq
  refine jw_iconst dL_types_300 (v := (0 : Int32)) (by decide) ?_
  exact l_L_types_b301  hq

set_option maxRecDepth 100000 in
set_option maxHeartbeats 4000000 in
theorem l_L_types_b322 {hi : jw_H} {h : jw_H} {t0 : Int32} {r : Int32} {h' : jw_H} (hq : g_L_types_b322  h t0 = some (r, h')) : jw_E 10 uL_types hi 322 [none, none, none] [.int t0] h (.inl (some (.int r))) h' := by
  unfold g_L_types_b322 at hq
  obtain ⟨v1, ev1, hq⟩ := Option.bind_eq_some_iff.mp hq
  cases hq
  exact jw_iret (ty := .boolean) dL_types_322 rfl (jw_rb_spec ev1)

set_option maxRecDepth 100000 in
set_option maxHeartbeats 4000000 in
theorem l_L_types_b321 {hi : jw_H} {h : jw_H}  {r : Int32} {h' : jw_H} (hq : g_L_types_b321  h  = some (r, h')) : jw_E 10 uL_types hi 321 [none, none, none] [] h (.inl (some (.int r))) h' := by
  unfold g_L_types_b321 at hq
  refine jw_iconst dL_types_321 (v := (0 : Int32)) (by decide) ?_
  exact l_L_types_b322  hq

set_option maxRecDepth 100000 in
set_option maxHeartbeats 4000000 in
theorem l_L_types_b343 {hi : jw_H} {h : jw_H} {t0 : Int32} {r : Int32} {h' : jw_H} (hq : g_L_types_b343  h t0 = some (r, h')) : jw_E 10 uL_types hi 343 [none, none, none] [.int t0] h (.inl (some (.int r))) h' := by
  unfold g_L_types_b343 at hq
  obtain ⟨v1, ev1, hq⟩ := Option.bind_eq_some_iff.mp hq
  cases hq
  exact jw_iret (ty := .boolean) dL_types_343 rfl (jw_rb_spec ev1)

set_option maxRecDepth 100000 in
set_option maxHeartbeats 4000000 in
theorem l_L_types_b342 {hi : jw_H} {h : jw_H}  {r : Int32} {h' : jw_H} (hq : g_L_types_b342  h  = some (r, h')) : jw_E 10 uL_types hi 342 [none, none, none] [] h (.inl (some (.int r))) h' := by
  unfold g_L_types_b342 at hq
  refine jw_iconst dL_types_342 (v := (0 : Int32)) (by decide) ?_
  exact l_L_types_b343  hq

set_option maxRecDepth 100000 in
set_option maxHeartbeats 4000000 in
theorem l_L_types_b365 {hi : jw_H} {h : jw_H} {t0 : Int32} {r : Int32} {h' : jw_H} (hq : g_L_types_b365  h t0 = some (r, h')) : jw_E 10 uL_types hi 365 [none, none, none] [.int t0] h (.inl (some (.int r))) h' := by
  unfold g_L_types_b365 at hq
  obtain ⟨v1, ev1, hq⟩ := Option.bind_eq_some_iff.mp hq
  cases hq
  exact jw_iret (ty := .boolean) dL_types_365 rfl (jw_rb_spec ev1)

set_option maxRecDepth 100000 in
set_option maxHeartbeats 4000000 in
theorem l_L_types_b364 {hi : jw_H} {h : jw_H}  {r : Int32} {h' : jw_H} (hq : g_L_types_b364  h  = some (r, h')) : jw_E 10 uL_types hi 364 [none, none, none] [] h (.inl (some (.int r))) h' := by
  unfold g_L_types_b364 at hq
  refine jw_iconst dL_types_364 (v := (0 : Int32)) (by decide) ?_
  exact l_L_types_b365  hq

set_option maxRecDepth 100000 in
set_option maxHeartbeats 4000000 in
theorem l_L_types_b386 {hi : jw_H} {h : jw_H} {t0 : Int32} {r : Int32} {h' : jw_H} (hq : g_L_types_b386  h t0 = some (r, h')) : jw_E 10 uL_types hi 386 [none, none, none] [.int t0] h (.inl (some (.int r))) h' := by
  unfold g_L_types_b386 at hq
  obtain ⟨v1, ev1, hq⟩ := Option.bind_eq_some_iff.mp hq
  cases hq
  exact jw_iret (ty := .boolean) dL_types_386 rfl (jw_rb_spec ev1)

set_option maxRecDepth 100000 in
set_option maxHeartbeats 4000000 in
theorem l_L_types_b385 {hi : jw_H} {h : jw_H}  {r : Int32} {h' : jw_H} (hq : g_L_types_b385  h  = some (r, h')) : jw_E 10 uL_types hi 385 [none, none, none] [] h (.inl (some (.int r))) h' := by
  unfold g_L_types_b385 at hq
  refine jw_iconst dL_types_385 (v := (0 : Int32)) (by decide) ?_
  exact l_L_types_b386  hq

set_option maxRecDepth 100000 in
set_option maxHeartbeats 4000000 in
theorem l_L_types_b407 {hi : jw_H} {h : jw_H} {t0 : Int32} {r : Int32} {h' : jw_H} (hq : g_L_types_b407  h t0 = some (r, h')) : jw_E 10 uL_types hi 407 [none, none, none] [.int t0] h (.inl (some (.int r))) h' := by
  unfold g_L_types_b407 at hq
  obtain ⟨v1, ev1, hq⟩ := Option.bind_eq_some_iff.mp hq
  cases hq
  exact jw_iret (ty := .boolean) dL_types_407 rfl (jw_rb_spec ev1)

set_option maxRecDepth 100000 in
set_option maxHeartbeats 4000000 in
theorem l_L_types_b406 {hi : jw_H} {h : jw_H}  {r : Int32} {h' : jw_H} (hq : g_L_types_b406  h  = some (r, h')) : jw_E 10 uL_types hi 406 [none, none, none] [] h (.inl (some (.int r))) h' := by
  unfold g_L_types_b406 at hq
  refine jw_iconst dL_types_406 (v := (0 : Int32)) (by decide) ?_
  exact l_L_types_b407  hq

set_option maxRecDepth 100000 in
set_option maxHeartbeats 4000000 in
theorem l_L_types_b440 {hi : jw_H} {h : jw_H} {t0 : Int32} {r : Int32} {h' : jw_H} (hq : g_L_types_b440  h t0 = some (r, h')) : jw_E 10 uL_types hi 440 [none, none, none] [.int t0] h (.inl (some (.int r))) h' := by
  unfold g_L_types_b440 at hq
  obtain ⟨v1, ev1, hq⟩ := Option.bind_eq_some_iff.mp hq
  cases hq
  exact jw_iret (ty := .boolean) dL_types_440 rfl (jw_rb_spec ev1)

set_option maxRecDepth 100000 in
set_option maxHeartbeats 4000000 in
theorem l_L_types_b439 {hi : jw_H} {h : jw_H}  {r : Int32} {h' : jw_H} (hq : g_L_types_b439  h  = some (r, h')) : jw_E 10 uL_types hi 439 [none, none, none] [] h (.inl (some (.int r))) h' := by
  unfold g_L_types_b439 at hq
  refine jw_iconst dL_types_439 (v := (0 : Int32)) (by decide) ?_
  exact l_L_types_b440  hq

set_option maxRecDepth 100000 in
set_option maxHeartbeats 4000000 in
theorem l_L_types_b462 {hi : jw_H} {h : jw_H} {t0 : Int32} {r : Int32} {h' : jw_H} (hq : g_L_types_b462  h t0 = some (r, h')) : jw_E 10 uL_types hi 462 [none, none, none] [.int t0] h (.inl (some (.int r))) h' := by
  unfold g_L_types_b462 at hq
  obtain ⟨v1, ev1, hq⟩ := Option.bind_eq_some_iff.mp hq
  cases hq
  exact jw_iret (ty := .boolean) dL_types_462 rfl (jw_rb_spec ev1)

set_option maxRecDepth 100000 in
set_option maxHeartbeats 4000000 in
theorem l_L_types_b461 {hi : jw_H} {h : jw_H}  {r : Int32} {h' : jw_H} (hq : g_L_types_b461  h  = some (r, h')) : jw_E 10 uL_types hi 461 [none, none, none] [] h (.inl (some (.int r))) h' := by
  unfold g_L_types_b461 at hq
  refine jw_iconst dL_types_461 (v := (0 : Int32)) (by decide) ?_
  exact l_L_types_b462  hq

set_option maxRecDepth 100000 in
set_option maxHeartbeats 4000000 in
theorem l_L_types_b483 {hi : jw_H} {h : jw_H} {t0 : Int32} {r : Int32} {h' : jw_H} (hq : g_L_types_b483  h t0 = some (r, h')) : jw_E 10 uL_types hi 483 [none, none, none] [.int t0] h (.inl (some (.int r))) h' := by
  unfold g_L_types_b483 at hq
  obtain ⟨v1, ev1, hq⟩ := Option.bind_eq_some_iff.mp hq
  cases hq
  exact jw_iret (ty := .boolean) dL_types_483 rfl (jw_rb_spec ev1)

set_option maxRecDepth 100000 in
set_option maxHeartbeats 4000000 in
theorem l_L_types_b482 {hi : jw_H} {h : jw_H}  {r : Int32} {h' : jw_H} (hq : g_L_types_b482  h  = some (r, h')) : jw_E 10 uL_types hi 482 [none, none, none] [] h (.inl (some (.int r))) h' := by
  unfold g_L_types_b482 at hq
  refine jw_iconst dL_types_482 (v := (0 : Int32)) (by decide) ?_
  exact l_L_types_b483  hq

set_option maxRecDepth 100000 in
set_option maxHeartbeats 4000000 in
theorem l_L_types_b504 {hi : jw_H} {h : jw_H} {t0 : Int32} {r : Int32} {h' : jw_H} (hq : g_L_types_b504  h t0 = some (r, h')) : jw_E 10 uL_types hi 504 [none, none, none] [.int t0] h (.inl (some (.int r))) h' := by
  unfold g_L_types_b504 at hq
  obtain ⟨v1, ev1, hq⟩ := Option.bind_eq_some_iff.mp hq
  cases hq
  exact jw_iret (ty := .boolean) dL_types_504 rfl (jw_rb_spec ev1)

set_option maxRecDepth 100000 in
set_option maxHeartbeats 4000000 in
theorem l_L_types_b503 {hi : jw_H} {h : jw_H}  {r : Int32} {h' : jw_H} (hq : g_L_types_b503  h  = some (r, h')) : jw_E 10 uL_types hi 503 [none, none, none] [] h (.inl (some (.int r))) h' := by
  unfold g_L_types_b503 at hq
  refine jw_iconst dL_types_503 (v := (0 : Int32)) (by decide) ?_
  exact l_L_types_b504  hq

set_option maxRecDepth 100000 in
set_option maxHeartbeats 4000000 in
theorem l_L_types_b526 {hi : jw_H} {h : jw_H} {t0 : Int32} {r : Int32} {h' : jw_H} (hq : g_L_types_b526  h t0 = some (r, h')) : jw_E 10 uL_types hi 526 [none, none, none] [.int t0] h (.inl (some (.int r))) h' := by
  unfold g_L_types_b526 at hq
  obtain ⟨v1, ev1, hq⟩ := Option.bind_eq_some_iff.mp hq
  cases hq
  exact jw_iret (ty := .boolean) dL_types_526 rfl (jw_rb_spec ev1)

set_option maxRecDepth 100000 in
set_option maxHeartbeats 4000000 in
theorem l_L_types_b525 {hi : jw_H} {h : jw_H}  {r : Int32} {h' : jw_H} (hq : g_L_types_b525  h  = some (r, h')) : jw_E 10 uL_types hi 525 [none, none, none] [] h (.inl (some (.int r))) h' := by
  unfold g_L_types_b525 at hq
  refine jw_iconst dL_types_525 (v := (0 : Int32)) (by decide) ?_
  exact l_L_types_b526  hq

set_option maxRecDepth 100000 in
set_option maxHeartbeats 4000000 in
theorem l_L_types_b12 {hi : jw_H} {h : jw_H} {x0 : Option Nat} {x1 : Int32} {t0 : Int32} {r : Int32} {h' : jw_H} (hq : g_L_types_b12  h x0 x1 t0 = some (r, h')) : jw_E 10 uL_types hi 12 [some (va_rf x0), some (.int x1), none] [.int t0] h (.inl (some (.int r))) h' := by
  unfold g_L_types_b12 at hq
  refine jw_istore_n (L' := [some (va_rf x0), some (.int x1), some (.int t0)]) dL_types_12 (Nat.le_of_ble_eq_true rfl) rfl ?_
  refine jw_iload_n dL_types_13 rfl ?_
  rcases jw_if hq with ⟨c1, hq⟩ | ⟨c1, hq⟩
  · refine jw_tableIn (tgt := 100) (off := 86) dL_types_14 (by rw [c1]; decide) (by rw [c1]; decide) (by rw [c1]; rfl) (by decide) ?_
    refine jw_iload_n dL_types_100 rfl ?_
    rcases jw_if hq with ⟨c2, hq⟩ | ⟨c2, hq⟩
    · refine jw_if_eq_t (tgt := 120) dL_types_101 (by decide) c2 ?_
      refine jw_forget [false, false, false] (L' := [none, none, none]) rfl ?_
      exact l_L_types_b120  hq
    · refine jw_if_eq_f (tgt := 120) dL_types_101 (by decide) c2 ?_
      refine jw_aload_n dL_types_104 (o := x0) rfl ?_
      refine jw_ldc2 dL_types_105 cw_L_21 ?_
      refine jw_bipush dL_types_108 (v := (9 : Int32)) (by decide) ?_
      obtain ⟨w4, h3, ew4, hq⟩ := jw_b2_spec hq
      refine jw_callS (As := [va_rf x0, .long (7448825222350502309 : Int64), .int (9 : Int32)]) (S := []) (v := some (.int w4)) dL_types_110 mt_L_typed st_L_typed lk_L_23 (c_L_typed ew4) rfl (by decide) (Nat.le_of_ble_eq_true rfl) rfl ?_
      rcases jw_if hq with ⟨c5, hq⟩ | ⟨c5, hq⟩
      · refine jw_if_eq_t (tgt := 120) dL_types_113 (by decide) c5 ?_
        refine jw_forget [false, false, false] (L' := [none, none, none]) rfl ?_
        exact l_L_types_b120  hq
      · refine jw_if_eq_f (tgt := 120) dL_types_113 (by decide) c5 ?_
        refine jw_iconst dL_types_116 (v := (1 : Int32)) (by decide) ?_
        refine jw_goto (tgt := 121) dL_types_117 (by decide) ?_
        refine jw_forget [false, false, false] (L' := [none, none, none]) rfl ?_
        exact l_L_types_b121  hq
  · rcases jw_if hq with ⟨c6, hq⟩ | ⟨c6, hq⟩
    · refine jw_tableIn (tgt := 122) (off := 108) dL_types_14 (by rw [c6]; decide) (by rw [c6]; decide) (by rw [c6]; rfl) (by decide) ?_
      refine jw_iload_n dL_types_122 rfl ?_
      rcases jw_if hq with ⟨c7, hq⟩ | ⟨c7, hq⟩
      · refine jw_if_eq_t (tgt := 141) dL_types_123 (by decide) c7 ?_
        refine jw_forget [false, false, false] (L' := [none, none, none]) rfl ?_
        exact l_L_types_b141  hq
      · refine jw_if_eq_f (tgt := 141) dL_types_123 (by decide) c7 ?_
        refine jw_aload_n dL_types_126 (o := x0) rfl ?_
        refine jw_ldc2 dL_types_127 cw_L_29 ?_
        refine jw_iconst dL_types_130 (v := (5 : Int32)) (by decide) ?_
        obtain ⟨w9, h8, ew9, hq⟩ := jw_b2_spec hq
        refine jw_callS (As := [va_rf x0, .long (26943723495 : Int64), .int (5 : Int32)]) (S := []) (v := some (.int w9)) dL_types_131 mt_L_typed st_L_typed lk_L_23 (c_L_typed ew9) rfl (by decide) (Nat.le_of_ble_eq_true rfl) rfl ?_
        rcases jw_if hq with ⟨c10, hq⟩ | ⟨c10, hq⟩
        · refine jw_if_eq_t (tgt := 141) dL_types_134 (by decide) c10 ?_
          refine jw_forget [false, false, false] (L' := [none, none, none]) rfl ?_
          exact l_L_types_b141  hq
        · refine jw_if_eq_f (tgt := 141) dL_types_134 (by decide) c10 ?_
          refine jw_iconst dL_types_137 (v := (1 : Int32)) (by decide) ?_
          refine jw_goto (tgt := 142) dL_types_138 (by decide) ?_
          refine jw_forget [false, false, false] (L' := [none, none, none]) rfl ?_
          exact l_L_types_b142  hq
    · rcases jw_if hq with ⟨c11, hq⟩ | ⟨c11, hq⟩
      · refine jw_tableIn (tgt := 143) (off := 129) dL_types_14 (by rw [c11]; decide) (by rw [c11]; decide) (by rw [c11]; rfl) (by decide) ?_
        refine jw_iload_n dL_types_143 rfl ?_
        rcases jw_if hq with ⟨c12, hq⟩ | ⟨c12, hq⟩
        · refine jw_if_eq_t (tgt := 162) dL_types_144 (by decide) c12 ?_
          refine jw_forget [false, false, false] (L' := [none, none, none]) rfl ?_
          exact l_L_types_b162  hq
        · refine jw_if_eq_f (tgt := 162) dL_types_144 (by decide) c12 ?_
          refine jw_aload_n dL_types_147 (o := x0) rfl ?_
          refine jw_ldc2 dL_types_148 cw_L_31 ?_
          refine jw_iconst dL_types_151 (v := (5 : Int32)) (by decide) ?_
          obtain ⟨w14, h13, ew14, hq⟩ := jw_b2_spec hq
          refine jw_callS (As := [va_rf x0, .long (9893090865 : Int64), .int (5 : Int32)]) (S := []) (v := some (.int w14)) dL_types_152 mt_L_typed st_L_typed lk_L_23 (c_L_typed ew14) rfl (by decide) (Nat.le_of_ble_eq_true rfl) rfl ?_
          rcases jw_if hq with ⟨c15, hq⟩ | ⟨c15, hq⟩
          · refine jw_if_eq_t (tgt := 162) dL_types_155 (by decide) c15 ?_
            refine jw_forget [false, false, false] (L' := [none, none, none]) rfl ?_
            exact l_L_types_b162  hq
          · refine jw_if_eq_f (tgt := 162) dL_types_155 (by decide) c15 ?_
            refine jw_iconst dL_types_158 (v := (1 : Int32)) (by decide) ?_
            refine jw_goto (tgt := 163) dL_types_159 (by decide) ?_
            refine jw_forget [false, false, false] (L' := [none, none, none]) rfl ?_
            exact l_L_types_b163  hq
      · rcases jw_if hq with ⟨c16, hq⟩ | ⟨c16, hq⟩
        · refine jw_tableIn (tgt := 164) (off := 150) dL_types_14 (by rw [c16]; decide) (by rw [c16]; decide) (by rw [c16]; rfl) (by decide) ?_
          refine jw_iload_n dL_types_164 rfl ?_
          rcases jw_if hq with ⟨c17, hq⟩ | ⟨c17, hq⟩
          · refine jw_if_eq_t (tgt := 183) dL_types_165 (by decide) c17 ?_
            refine jw_forget [false, false, false] (L' := [none, none, none]) rfl ?_
            exact l_L_types_b183  hq
          · refine jw_if_eq_f (tgt := 183) dL_types_165 (by decide) c17 ?_
            refine jw_aload_n dL_types_168 (o := x0) rfl ?_
            refine jw_ldc2 dL_types_169 cw_L_33 ?_
            refine jw_iconst dL_types_172 (v := (3 : Int32)) (by decide) ?_
            obtain ⟨w19, h18, ew19, hq⟩ := jw_b2_spec hq
            refine jw_callS (As := [va_rf x0, .long (817061 : Int64), .int (3 : Int32)]) (S := []) (v := some (.int w19)) dL_types_173 mt_L_typed st_L_typed lk_L_23 (c_L_typed ew19) rfl (by decide) (Nat.le_of_ble_eq_true rfl) rfl ?_
            rcases jw_if hq with ⟨c20, hq⟩ | ⟨c20, hq⟩
            · refine jw_if_eq_t (tgt := 183) dL_types_176 (by decide) c20 ?_
              refine jw_forget [false, false, false] (L' := [none, none, none]) rfl ?_
              exact l_L_types_b183  hq
            · refine jw_if_eq_f (tgt := 183) dL_types_176 (by decide) c20 ?_
              refine jw_iconst dL_types_179 (v := (1 : Int32)) (by decide) ?_
              refine jw_goto (tgt := 184) dL_types_180 (by decide) ?_
              refine jw_forget [false, false, false] (L' := [none, none, none]) rfl ?_
              exact l_L_types_b184  hq
        · rcases jw_if hq with ⟨c21, hq⟩ | ⟨c21, hq⟩
          · refine jw_tableIn (tgt := 185) (off := 171) dL_types_14 (by rw [c21]; decide) (by rw [c21]; decide) (by rw [c21]; rfl) (by decide) ?_
            refine jw_iload_n dL_types_185 rfl ?_
            rcases jw_if hq with ⟨c22, hq⟩ | ⟨c22, hq⟩
            · refine jw_if_eq_t (tgt := 204) dL_types_186 (by decide) c22 ?_
              refine jw_forget [false, false, false] (L' := [none, none, none]) rfl ?_
              exact l_L_types_b204  hq
            · refine jw_if_eq_f (tgt := 204) dL_types_186 (by decide) c22 ?_
              refine jw_aload_n dL_types_189 (o := x0) rfl ?_
              refine jw_ldc2 dL_types_190 cw_L_35 ?_
              refine jw_iconst dL_types_193 (v := (3 : Int32)) (by decide) ?_
              obtain ⟨w24, h23, ew24, hq⟩ := jw_b2_spec hq
              refine jw_callS (As := [va_rf x0, .long (850725 : Int64), .int (3 : Int32)]) (S := []) (v := some (.int w24)) dL_types_194 mt_L_typed st_L_typed lk_L_23 (c_L_typed ew24) rfl (by decide) (Nat.le_of_ble_eq_true rfl) rfl ?_
              rcases jw_if hq with ⟨c25, hq⟩ | ⟨c25, hq⟩
              · refine jw_if_eq_t (tgt := 204) dL_types_197 (by decide) c25 ?_
                refine jw_forget [false, false, false] (L' := [none, none, none]) rfl ?_
                exact l_L_types_b204  hq
              · refine jw_if_eq_f (tgt := 204) dL_types_197 (by decide) c25 ?_
                refine jw_iconst dL_types_200 (v := (1 : Int32)) (by decide) ?_
                refine jw_goto (tgt := 205) dL_types_201 (by decide) ?_
                refine jw_forget [false, false, false] (L' := [none, none, none]) rfl ?_
                exact l_L_types_b205  hq
          · rcases jw_if hq with ⟨c26, hq⟩ | ⟨c26, hq⟩
            · refine jw_tableIn (tgt := 206) (off := 192) dL_types_14 (by rw [c26]; decide) (by rw [c26]; decide) (by rw [c26]; rfl) (by decide) ?_
              refine jw_iload_n dL_types_206 rfl ?_
              rcases jw_if hq with ⟨c27, hq⟩ | ⟨c27, hq⟩
              · refine jw_if_eq_t (tgt := 225) dL_types_207 (by decide) c27 ?_
                refine jw_forget [false, false, false] (L' := [none, none, none]) rfl ?_
                exact l_L_types_b225  hq
              · refine jw_if_eq_f (tgt := 225) dL_types_207 (by decide) c27 ?_
                refine jw_aload_n dL_types_210 (o := x0) rfl ?_
                refine jw_ldc2 dL_types_211 cw_L_37 ?_
                refine jw_iconst dL_types_214 (v := (2 : Int32)) (by decide) ?_
                obtain ⟨w29, h28, ew29, hq⟩ := jw_b2_spec hq
                refine jw_callS (As := [va_rf x0, .long (13861 : Int64), .int (2 : Int32)]) (S := []) (v := some (.int w29)) dL_types_215 mt_L_typed st_L_typed lk_L_23 (c_L_typed ew29) rfl (by decide) (Nat.le_of_ble_eq_true rfl) rfl ?_
                rcases jw_if hq with ⟨c30, hq⟩ | ⟨c30, hq⟩
                · refine jw_if_eq_t (tgt := 225) dL_types_218 (by decide) c30 ?_
                  refine jw_forget [false, false, false] (L' := [none, none, none]) rfl ?_
                  exact l_L_types_b225  hq
                · refine jw_if_eq_f (tgt := 225) dL_types_218 (by decide) c30 ?_
                  refine jw_iconst dL_types_221 (v := (1 : Int32)) (by decide) ?_
                  refine jw_goto (tgt := 226) dL_types_222 (by decide) ?_
                  refine jw_forget [false, false, false] (L' := [none, none, none]) rfl ?_
                  exact l_L_types_b226  hq
            · rcases jw_if hq with ⟨c31, hq⟩ | ⟨c31, hq⟩
              · refine jw_tableIn (tgt := 227) (off := 213) dL_types_14 (by rw [c31]; decide) (by rw [c31]; decide) (by rw [c31]; rfl) (by decide) ?_
                refine jw_iload_n dL_types_227 rfl ?_
                rcases jw_if hq with ⟨c32, hq⟩ | ⟨c32, hq⟩
                · refine jw_if_eq_t (tgt := 246) dL_types_228 (by decide) c32 ?_
                  refine jw_forget [false, false, false] (L' := [none, none, none]) rfl ?_
                  exact l_L_types_b246  hq
                · refine jw_if_eq_f (tgt := 246) dL_types_228 (by decide) c32 ?_
                  refine jw_aload_n dL_types_231 (o := x0) rfl ?_
                  refine jw_ldc2 dL_types_232 cw_L_39 ?_
                  refine jw_iconst dL_types_235 (v := (4 : Int32)) (by decide) ?_
                  obtain ⟨w34, h33, ew34, hq⟩ := jw_b2_spec hq
                  refine jw_callS (As := [va_rf x0, .long (223122993 : Int64), .int (4 : Int32)]) (S := []) (v := some (.int w34)) dL_types_236 mt_L_typed st_L_typed lk_L_23 (c_L_typed ew34) rfl (by decide) (Nat.le_of_ble_eq_true rfl) rfl ?_
                  rcases jw_if hq with ⟨c35, hq⟩ | ⟨c35, hq⟩
                  · refine jw_if_eq_t (tgt := 246) dL_types_239 (by decide) c35 ?_
                    refine jw_forget [false, false, false] (L' := [none, none, none]) rfl ?_
                    exact l_L_types_b246  hq
                  · refine jw_if_eq_f (tgt := 246) dL_types_239 (by decide) c35 ?_
                    refine jw_iconst dL_types_242 (v := (1 : Int32)) (by decide) ?_
                    refine jw_goto (tgt := 247) dL_types_243 (by decide) ?_
                    refine jw_forget [false, false, false] (L' := [none, none, none]) rfl ?_
                    exact l_L_types_b247  hq
              · rcases jw_if hq with ⟨c36, hq⟩ | ⟨c36, hq⟩
                · refine jw_tableIn (tgt := 248) (off := 234) dL_types_14 (by rw [c36]; decide) (by rw [c36]; decide) (by rw [c36]; rfl) (by decide) ?_
                  refine jw_iload_n dL_types_248 rfl ?_
                  rcases jw_if hq with ⟨c37, hq⟩ | ⟨c37, hq⟩
                  · refine jw_if_eq_t (tgt := 267) dL_types_249 (by decide) c37 ?_
                    refine jw_forget [false, false, false] (L' := [none, none, none]) rfl ?_
                    exact l_L_types_b267  hq
                  · refine jw_if_eq_f (tgt := 267) dL_types_249 (by decide) c37 ?_
                    refine jw_aload_n dL_types_252 (o := x0) rfl ?_
                    refine jw_ldc2 dL_types_253 cw_L_41 ?_
                    refine jw_iconst dL_types_256 (v := (3 : Int32)) (by decide) ?_
                    obtain ⟨w39, h38, ew39, hq⟩ := jw_b2_spec hq
                    refine jw_callS (As := [va_rf x0, .long (604721 : Int64), .int (3 : Int32)]) (S := []) (v := some (.int w39)) dL_types_257 mt_L_typed st_L_typed lk_L_23 (c_L_typed ew39) rfl (by decide) (Nat.le_of_ble_eq_true rfl) rfl ?_
                    rcases jw_if hq with ⟨c40, hq⟩ | ⟨c40, hq⟩
                    · refine jw_if_eq_t (tgt := 267) dL_types_260 (by decide) c40 ?_
                      refine jw_forget [false, false, false] (L' := [none, none, none]) rfl ?_
                      exact l_L_types_b267  hq
                    · refine jw_if_eq_f (tgt := 267) dL_types_260 (by decide) c40 ?_
                      refine jw_iconst dL_types_263 (v := (1 : Int32)) (by decide) ?_
                      refine jw_goto (tgt := 268) dL_types_264 (by decide) ?_
                      refine jw_forget [false, false, false] (L' := [none, none, none]) rfl ?_
                      exact l_L_types_b268  hq
                · rcases jw_if hq with ⟨c41, hq⟩ | ⟨c41, hq⟩
                  · refine jw_tableIn (tgt := 269) (off := 255) dL_types_14 (by rw [c41]; decide) (by rw [c41]; decide) (by rw [c41]; rfl) (by decide) ?_
                    refine jw_iload_n dL_types_269 rfl ?_
                    rcases jw_if hq with ⟨c42, hq⟩ | ⟨c42, hq⟩
                    · refine jw_if_eq_t (tgt := 300) dL_types_270 (by decide) c42 ?_
                      refine jw_forget [false, false, false] (L' := [none, none, none]) rfl ?_
                      exact l_L_types_b300  hq
                    · refine jw_if_eq_f (tgt := 300) dL_types_270 (by decide) c42 ?_
                      refine jw_aload_n dL_types_273 (o := x0) rfl ?_
                      refine jw_ldc2 dL_types_274 cw_L_43 ?_
                      refine jw_bipush dL_types_277 (v := (9 : Int32)) (by decide) ?_
                      obtain ⟨w44, h43, ew44, hq⟩ := jw_b2_spec hq
                      refine jw_callS (As := [va_rf x0, .long (7743594277010692039 : Int64), .int (9 : Int32)]) (S := []) (v := some (.int w44)) dL_types_279 mt_L_typed st_L_typed lk_L_23 (c_L_typed ew44) rfl (by decide) (Nat.le_of_ble_eq_true rfl) rfl ?_
                      rcases jw_if hq with ⟨c45, hq⟩ | ⟨c45, hq⟩
                      · refine jw_if_eq_t (tgt := 300) dL_types_282 (by decide) c45 ?_
                        refine jw_forget [false, false, false] (L' := [none, none, none]) rfl ?_
                        exact l_L_types_b300  hq
                      · refine jw_if_eq_f (tgt := 300) dL_types_282 (by decide) c45 ?_
                        refine jw_aload_n dL_types_285 (o := x0) rfl ?_
                        refine jw_ldc2 dL_types_286 cw_L_45 ?_
                        refine jw_iconst dL_types_289 (v := (2 : Int32)) (by decide) ?_
                        obtain ⟨w47, h46, ew47, hq⟩ := jw_b2_spec hq
                        refine jw_callS (As := [va_rf x0, .long (16097 : Int64), .int (2 : Int32)]) (S := []) (v := some (.int w47)) dL_types_290 mt_L_typed st_L_typed lk_L_23 (c_L_typed ew47) rfl (by decide) (Nat.le_of_ble_eq_true rfl) rfl ?_
                        rcases jw_if hq with ⟨c48, hq⟩ | ⟨c48, hq⟩
                        · refine jw_if_eq_t (tgt := 300) dL_types_293 (by decide) c48 ?_
                          refine jw_forget [false, false, false] (L' := [none, none, none]) rfl ?_
                          exact l_L_types_b300  hq
                        · refine jw_if_eq_f (tgt := 300) dL_types_293 (by decide) c48 ?_
                          refine jw_iconst dL_types_296 (v := (1 : Int32)) (by decide) ?_
                          refine jw_goto (tgt := 301) dL_types_297 (by decide) ?_
                          refine jw_forget [false, false, false] (L' := [none, none, none]) rfl ?_
                          exact l_L_types_b301  hq
                  · rcases jw_if hq with ⟨c49, hq⟩ | ⟨c49, hq⟩
                    · refine jw_tableIn (tgt := 302) (off := 288) dL_types_14 (by rw [c49]; decide) (by rw [c49]; decide) (by rw [c49]; rfl) (by decide) ?_
                      refine jw_iload_n dL_types_302 rfl ?_
                      rcases jw_if hq with ⟨c50, hq⟩ | ⟨c50, hq⟩
                      · refine jw_if_eq_t (tgt := 321) dL_types_303 (by decide) c50 ?_
                        refine jw_forget [false, false, false] (L' := [none, none, none]) rfl ?_
                        exact l_L_types_b321  hq
                      · refine jw_if_eq_f (tgt := 321) dL_types_303 (by decide) c50 ?_
                        refine jw_aload_n dL_types_306 (o := x0) rfl ?_
                        refine jw_ldc2 dL_types_307 cw_L_47 ?_
                        refine jw_iconst dL_types_310 (v := (2 : Int32)) (by decide) ?_
                        obtain ⟨w52, h51, ew52, hq⟩ := jw_b2_spec hq
                        refine jw_callS (As := [va_rf x0, .long (12965 : Int64), .int (2 : Int32)]) (S := []) (v := some (.int w52)) dL_types_311 mt_L_typed st_L_typed lk_L_23 (c_L_typed ew52) rfl (by decide) (Nat.le_of_ble_eq_true rfl) rfl ?_
                        rcases jw_if hq with ⟨c53, hq⟩ | ⟨c53, hq⟩
                        · refine jw_if_eq_t (tgt := 321) dL_types_314 (by decide) c53 ?_
                          refine jw_forget [false, false, false] (L' := [none, none, none]) rfl ?_
                          exact l_L_types_b321  hq
                        · refine jw_if_eq_f (tgt := 321) dL_types_314 (by decide) c53 ?_
                          refine jw_iconst dL_types_317 (v := (1 : Int32)) (by decide) ?_
                          refine jw_goto (tgt := 322) dL_types_318 (by decide) ?_
                          refine jw_forget [false, false, false] (L' := [none, none, none]) rfl ?_
                          exact l_L_types_b322  hq
                    · rcases jw_if hq with ⟨c54, hq⟩ | ⟨c54, hq⟩
                      · refine jw_tableIn (tgt := 323) (off := 309) dL_types_14 (by rw [c54]; decide) (by rw [c54]; decide) (by rw [c54]; rfl) (by decide) ?_
                        refine jw_iload_n dL_types_323 rfl ?_
                        rcases jw_if hq with ⟨c55, hq⟩ | ⟨c55, hq⟩
                        · refine jw_if_eq_t (tgt := 342) dL_types_324 (by decide) c55 ?_
                          refine jw_forget [false, false, false] (L' := [none, none, none]) rfl ?_
                          exact l_L_types_b342  hq
                        · refine jw_if_eq_f (tgt := 342) dL_types_324 (by decide) c55 ?_
                          refine jw_aload_n dL_types_327 (o := x0) rfl ?_
                          refine jw_ldc2 dL_types_328 cw_L_49 ?_
                          refine jw_iconst dL_types_331 (v := (2 : Int32)) (by decide) ?_
                          obtain ⟨w57, h56, ew57, hq⟩ := jw_b2_spec hq
                          refine jw_callS (As := [va_rf x0, .long (13349 : Int64), .int (2 : Int32)]) (S := []) (v := some (.int w57)) dL_types_332 mt_L_typed st_L_typed lk_L_23 (c_L_typed ew57) rfl (by decide) (Nat.le_of_ble_eq_true rfl) rfl ?_
                          rcases jw_if hq with ⟨c58, hq⟩ | ⟨c58, hq⟩
                          · refine jw_if_eq_t (tgt := 342) dL_types_335 (by decide) c58 ?_
                            refine jw_forget [false, false, false] (L' := [none, none, none]) rfl ?_
                            exact l_L_types_b342  hq
                          · refine jw_if_eq_f (tgt := 342) dL_types_335 (by decide) c58 ?_
                            refine jw_iconst dL_types_338 (v := (1 : Int32)) (by decide) ?_
                            refine jw_goto (tgt := 343) dL_types_339 (by decide) ?_
                            refine jw_forget [false, false, false] (L' := [none, none, none]) rfl ?_
                            exact l_L_types_b343  hq
                      · rcases jw_if hq with ⟨c59, hq⟩ | ⟨c59, hq⟩
                        · refine jw_tableIn (tgt := 344) (off := 330) dL_types_14 (by rw [c59]; decide) (by rw [c59]; decide) (by rw [c59]; rfl) (by decide) ?_
                          refine jw_iload_n dL_types_344 rfl ?_
                          rcases jw_if hq with ⟨c60, hq⟩ | ⟨c60, hq⟩
                          · refine jw_if_eq_t (tgt := 364) dL_types_345 (by decide) c60 ?_
                            refine jw_forget [false, false, false] (L' := [none, none, none]) rfl ?_
                            exact l_L_types_b364  hq
                          · refine jw_if_eq_f (tgt := 364) dL_types_345 (by decide) c60 ?_
                            refine jw_aload_n dL_types_348 (o := x0) rfl ?_
                            refine jw_ldc2 dL_types_349 cw_L_51 ?_
                            refine jw_bipush dL_types_352 (v := (9 : Int32)) (by decide) ?_
                            obtain ⟨w62, h61, ew62, hq⟩ := jw_b2_spec hq
                            refine jw_callS (As := [va_rf x0, .long (8861365562411636274 : Int64), .int (9 : Int32)]) (S := []) (v := some (.int w62)) dL_types_354 mt_L_typed st_L_typed lk_L_23 (c_L_typed ew62) rfl (by decide) (Nat.le_of_ble_eq_true rfl) rfl ?_
                            rcases jw_if hq with ⟨c63, hq⟩ | ⟨c63, hq⟩
                            · refine jw_if_eq_t (tgt := 364) dL_types_357 (by decide) c63 ?_
                              refine jw_forget [false, false, false] (L' := [none, none, none]) rfl ?_
                              exact l_L_types_b364  hq
                            · refine jw_if_eq_f (tgt := 364) dL_types_357 (by decide) c63 ?_
                              refine jw_iconst dL_types_360 (v := (1 : Int32)) (by decide) ?_
                              refine jw_goto (tgt := 365) dL_types_361 (by decide) ?_
                              refine jw_forget [false, false, false] (L' := [none, none, none]) rfl ?_
                              exact l_L_types_b365  hq
                        · rcases jw_if hq with ⟨c64, hq⟩ | ⟨c64, hq⟩
                          · refine jw_tableIn (tgt := 366) (off := 352) dL_types_14 (by rw [c64]; decide) (by rw [c64]; decide) (by rw [c64]; rfl) (by decide) ?_
                            refine jw_iload_n dL_types_366 rfl ?_
                            rcases jw_if hq with ⟨c65, hq⟩ | ⟨c65, hq⟩
                            · refine jw_if_eq_t (tgt := 385) dL_types_367 (by decide) c65 ?_
                              refine jw_forget [false, false, false] (L' := [none, none, none]) rfl ?_
                              exact l_L_types_b385  hq
                            · refine jw_if_eq_f (tgt := 385) dL_types_367 (by decide) c65 ?_
                              refine jw_aload_n dL_types_370 (o := x0) rfl ?_
                              refine jw_ldc2 dL_types_371 cw_L_53 ?_
                              refine jw_iconst dL_types_374 (v := (3 : Int32)) (by decide) ?_
                              obtain ⟨w67, h66, ew67, hq⟩ := jw_b2_spec hq
                              refine jw_callS (As := [va_rf x0, .long (1646030 : Int64), .int (3 : Int32)]) (S := []) (v := some (.int w67)) dL_types_375 mt_L_typed st_L_typed lk_L_23 (c_L_typed ew67) rfl (by decide) (Nat.le_of_ble_eq_true rfl) rfl ?_
                              rcases jw_if hq with ⟨c68, hq⟩ | ⟨c68, hq⟩
                              · refine jw_if_eq_t (tgt := 385) dL_types_378 (by decide) c68 ?_
                                refine jw_forget [false, false, false] (L' := [none, none, none]) rfl ?_
                                exact l_L_types_b385  hq
                              · refine jw_if_eq_f (tgt := 385) dL_types_378 (by decide) c68 ?_
                                refine jw_iconst dL_types_381 (v := (1 : Int32)) (by decide) ?_
                                refine jw_goto (tgt := 386) dL_types_382 (by decide) ?_
                                refine jw_forget [false, false, false] (L' := [none, none, none]) rfl ?_
                                exact l_L_types_b386  hq
                          · rcases jw_if hq with ⟨c69, hq⟩ | ⟨c69, hq⟩
                            · refine jw_tableIn (tgt := 387) (off := 373) dL_types_14 (by rw [c69]; decide) (by rw [c69]; decide) (by rw [c69]; rfl) (by decide) ?_
                              refine jw_iload_n dL_types_387 rfl ?_
                              rcases jw_if hq with ⟨c70, hq⟩ | ⟨c70, hq⟩
                              · refine jw_if_eq_t (tgt := 406) dL_types_388 (by decide) c70 ?_
                                refine jw_forget [false, false, false] (L' := [none, none, none]) rfl ?_
                                exact l_L_types_b406  hq
                              · refine jw_if_eq_f (tgt := 406) dL_types_388 (by decide) c70 ?_
                                refine jw_aload_n dL_types_391 (o := x0) rfl ?_
                                refine jw_ldc2 dL_types_392 cw_L_55 ?_
                                refine jw_iconst dL_types_395 (v := (4 : Int32)) (by decide) ?_
                                obtain ⟨w72, h71, ew72, hq⟩ := jw_b2_spec hq
                                refine jw_callS (As := [va_rf x0, .long (210759871 : Int64), .int (4 : Int32)]) (S := []) (v := some (.int w72)) dL_types_396 mt_L_typed st_L_typed lk_L_23 (c_L_typed ew72) rfl (by decide) (Nat.le_of_ble_eq_true rfl) rfl ?_
                                rcases jw_if hq with ⟨c73, hq⟩ | ⟨c73, hq⟩
                                · refine jw_if_eq_t (tgt := 406) dL_types_399 (by decide) c73 ?_
                                  refine jw_forget [false, false, false] (L' := [none, none, none]) rfl ?_
                                  exact l_L_types_b406  hq
                                · refine jw_if_eq_f (tgt := 406) dL_types_399 (by decide) c73 ?_
                                  refine jw_iconst dL_types_402 (v := (1 : Int32)) (by decide) ?_
                                  refine jw_goto (tgt := 407) dL_types_403 (by decide) ?_
                                  refine jw_forget [false, false, false] (L' := [none, none, none]) rfl ?_
                                  exact l_L_types_b407  hq
                            · rcases jw_if hq with ⟨c74, hq⟩ | ⟨c74, hq⟩
                              · refine jw_tableIn (tgt := 408) (off := 394) dL_types_14 (by rw [c74]; decide) (by rw [c74]; decide) (by rw [c74]; rfl) (by decide) ?_
                                refine jw_iload_n dL_types_408 rfl ?_
                                rcases jw_if hq with ⟨c75, hq⟩ | ⟨c75, hq⟩
                                · refine jw_if_eq_t (tgt := 439) dL_types_409 (by decide) c75 ?_
                                  refine jw_forget [false, false, false] (L' := [none, none, none]) rfl ?_
                                  exact l_L_types_b439  hq
                                · refine jw_if_eq_f (tgt := 439) dL_types_409 (by decide) c75 ?_
                                  refine jw_aload_n dL_types_412 (o := x0) rfl ?_
                                  refine jw_ldc2 dL_types_413 cw_L_57 ?_
                                  refine jw_bipush dL_types_416 (v := (9 : Int32)) (by decide) ?_
                                  obtain ⟨w77, h76, ew77, hq⟩ := jw_b2_spec hq
                                  refine jw_callS (As := [va_rf x0, .long (3407405772541833007 : Int64), .int (9 : Int32)]) (S := []) (v := some (.int w77)) dL_types_418 mt_L_typed st_L_typed lk_L_23 (c_L_typed ew77) rfl (by decide) (Nat.le_of_ble_eq_true rfl) rfl ?_
                                  rcases jw_if hq with ⟨c78, hq⟩ | ⟨c78, hq⟩
                                  · refine jw_if_eq_t (tgt := 439) dL_types_421 (by decide) c78 ?_
                                    refine jw_forget [false, false, false] (L' := [none, none, none]) rfl ?_
                                    exact l_L_types_b439  hq
                                  · refine jw_if_eq_f (tgt := 439) dL_types_421 (by decide) c78 ?_
                                    refine jw_aload_n dL_types_424 (o := x0) rfl ?_
                                    refine jw_ldc2 dL_types_425 cw_L_59 ?_
                                    refine jw_iconst dL_types_428 (v := (2 : Int32)) (by decide) ?_
                                    obtain ⟨w80, h79, ew80, hq⟩ := jw_b2_spec hq
                                    refine jw_callS (As := [va_rf x0, .long (6115 : Int64), .int (2 : Int32)]) (S := []) (v := some (.int w80)) dL_types_429 mt_L_typed st_L_typed lk_L_23 (c_L_typed ew80) rfl (by decide) (Nat.le_of_ble_eq_true rfl) rfl ?_
                                    rcases jw_if hq with ⟨c81, hq⟩ | ⟨c81, hq⟩
                                    · refine jw_if_eq_t (tgt := 439) dL_types_432 (by decide) c81 ?_
                                      refine jw_forget [false, false, false] (L' := [none, none, none]) rfl ?_
                                      exact l_L_types_b439  hq
                                    · refine jw_if_eq_f (tgt := 439) dL_types_432 (by decide) c81 ?_
                                      refine jw_iconst dL_types_435 (v := (1 : Int32)) (by decide) ?_
                                      refine jw_goto (tgt := 440) dL_types_436 (by decide) ?_
                                      refine jw_forget [false, false, false] (L' := [none, none, none]) rfl ?_
                                      exact l_L_types_b440  hq
                              · rcases jw_if hq with ⟨c82, hq⟩ | ⟨c82, hq⟩
                                · refine jw_tableIn (tgt := 441) (off := 427) dL_types_14 (by rw [c82]; decide) (by rw [c82]; decide) (by rw [c82]; rfl) (by decide) ?_
                                  refine jw_iload_n dL_types_441 rfl ?_
                                  rcases jw_if hq with ⟨c83, hq⟩ | ⟨c83, hq⟩
                                  · refine jw_if_eq_t (tgt := 461) dL_types_442 (by decide) c83 ?_
                                    refine jw_forget [false, false, false] (L' := [none, none, none]) rfl ?_
                                    exact l_L_types_b461  hq
                                  · refine jw_if_eq_f (tgt := 461) dL_types_442 (by decide) c83 ?_
                                    refine jw_aload_n dL_types_445 (o := x0) rfl ?_
                                    refine jw_ldc2 dL_types_446 cw_L_61 ?_
                                    refine jw_bipush dL_types_449 (v := (7 : Int32)) (by decide) ?_
                                    obtain ⟨w85, h84, ew85, hq⟩ := jw_b2_spec hq
                                    refine jw_callS (As := [va_rf x0, .long (439096374470565 : Int64), .int (7 : Int32)]) (S := []) (v := some (.int w85)) dL_types_451 mt_L_typed st_L_typed lk_L_23 (c_L_typed ew85) rfl (by decide) (Nat.le_of_ble_eq_true rfl) rfl ?_
                                    rcases jw_if hq with ⟨c86, hq⟩ | ⟨c86, hq⟩
                                    · refine jw_if_eq_t (tgt := 461) dL_types_454 (by decide) c86 ?_
                                      refine jw_forget [false, false, false] (L' := [none, none, none]) rfl ?_
                                      exact l_L_types_b461  hq
                                    · refine jw_if_eq_f (tgt := 461) dL_types_454 (by decide) c86 ?_
                                      refine jw_iconst dL_types_457 (v := (1 : Int32)) (by decide) ?_
                                      refine jw_goto (tgt := 462) dL_types_458 (by decide) ?_
                                      refine jw_forget [false, false, false] (L' := [none, none, none]) rfl ?_
                                      exact l_L_types_b462  hq
                                · rcases jw_if hq with ⟨c87, hq⟩ | ⟨c87, hq⟩
                                  · refine jw_tableIn (tgt := 463) (off := 449) dL_types_14 (by rw [c87]; decide) (by rw [c87]; decide) (by rw [c87]; rfl) (by decide) ?_
                                    refine jw_iload_n dL_types_463 rfl ?_
                                    rcases jw_if hq with ⟨c88, hq⟩ | ⟨c88, hq⟩
                                    · refine jw_if_eq_t (tgt := 482) dL_types_464 (by decide) c88 ?_
                                      refine jw_forget [false, false, false] (L' := [none, none, none]) rfl ?_
                                      exact l_L_types_b482  hq
                                    · refine jw_if_eq_f (tgt := 482) dL_types_464 (by decide) c88 ?_
                                      refine jw_aload_n dL_types_467 (o := x0) rfl ?_
                                      refine jw_ldc2 dL_types_468 cw_L_63 ?_
                                      refine jw_iconst dL_types_471 (v := (1 : Int32)) (by decide) ?_
                                      obtain ⟨w90, h89, ew90, hq⟩ := jw_b2_spec hq
                                      refine jw_callS (As := [va_rf x0, .long (117 : Int64), .int (1 : Int32)]) (S := []) (v := some (.int w90)) dL_types_472 mt_L_typed st_L_typed lk_L_23 (c_L_typed ew90) rfl (by decide) (Nat.le_of_ble_eq_true rfl) rfl ?_
                                      rcases jw_if hq with ⟨c91, hq⟩ | ⟨c91, hq⟩
                                      · refine jw_if_eq_t (tgt := 482) dL_types_475 (by decide) c91 ?_
                                        refine jw_forget [false, false, false] (L' := [none, none, none]) rfl ?_
                                        exact l_L_types_b482  hq
                                      · refine jw_if_eq_f (tgt := 482) dL_types_475 (by decide) c91 ?_
                                        refine jw_iconst dL_types_478 (v := (1 : Int32)) (by decide) ?_
                                        refine jw_goto (tgt := 483) dL_types_479 (by decide) ?_
                                        refine jw_forget [false, false, false] (L' := [none, none, none]) rfl ?_
                                        exact l_L_types_b483  hq
                                  · rcases jw_if hq with ⟨c92, hq⟩ | ⟨c92, hq⟩
                                    · refine jw_tableIn (tgt := 484) (off := 470) dL_types_14 (by rw [c92]; decide) (by rw [c92]; decide) (by rw [c92]; rfl) (by decide) ?_
                                      refine jw_iload_n dL_types_484 rfl ?_
                                      rcases jw_if hq with ⟨c93, hq⟩ | ⟨c93, hq⟩
                                      · refine jw_if_eq_t (tgt := 503) dL_types_485 (by decide) c93 ?_
                                        refine jw_forget [false, false, false] (L' := [none, none, none]) rfl ?_
                                        exact l_L_types_b503  hq
                                      · refine jw_if_eq_f (tgt := 503) dL_types_485 (by decide) c93 ?_
                                        refine jw_aload_n dL_types_488 (o := x0) rfl ?_
                                        refine jw_ldc2 dL_types_489 cw_L_65 ?_
                                        refine jw_iconst dL_types_492 (v := (2 : Int32)) (by decide) ?_
                                        obtain ⟨w95, h94, ew95, hq⟩ := jw_b2_spec hq
                                        refine jw_callS (As := [va_rf x0, .long (13489 : Int64), .int (2 : Int32)]) (S := []) (v := some (.int w95)) dL_types_493 mt_L_typed st_L_typed lk_L_23 (c_L_typed ew95) rfl (by decide) (Nat.le_of_ble_eq_true rfl) rfl ?_
                                        rcases jw_if hq with ⟨c96, hq⟩ | ⟨c96, hq⟩
                                        · refine jw_if_eq_t (tgt := 503) dL_types_496 (by decide) c96 ?_
                                          refine jw_forget [false, false, false] (L' := [none, none, none]) rfl ?_
                                          exact l_L_types_b503  hq
                                        · refine jw_if_eq_f (tgt := 503) dL_types_496 (by decide) c96 ?_
                                          refine jw_iconst dL_types_499 (v := (1 : Int32)) (by decide) ?_
                                          refine jw_goto (tgt := 504) dL_types_500 (by decide) ?_
                                          refine jw_forget [false, false, false] (L' := [none, none, none]) rfl ?_
                                          exact l_L_types_b504  hq
                                    · refine jw_tableOut (tgt := 505) dL_types_14 (by have z0 : ¬ (x1).toInt = 0 := lv_neT c1 rfl; have z1 : ¬ (x1).toInt = 1 := lv_neT c6 rfl; have z2 : ¬ (x1).toInt = 2 := lv_neT c11 rfl; have z3 : ¬ (x1).toInt = 3 := lv_neT c16 rfl; have z4 : ¬ (x1).toInt = 4 := lv_neT c21 rfl; have z5 : ¬ (x1).toInt = 5 := lv_neT c26 rfl; have z6 : ¬ (x1).toInt = 6 := lv_neT c31 rfl; have z7 : ¬ (x1).toInt = 7 := lv_neT c36 rfl; have z8 : ¬ (x1).toInt = 8 := lv_neT c41 rfl; have z9 : ¬ (x1).toInt = 9 := lv_neT c49 rfl; have z10 : ¬ (x1).toInt = 10 := lv_neT c54 rfl; have z11 : ¬ (x1).toInt = 11 := lv_neT c59 rfl; have z12 : ¬ (x1).toInt = 12 := lv_neT c64 rfl; have z13 : ¬ (x1).toInt = 13 := lv_neT c69 rfl; have z14 : ¬ (x1).toInt = 14 := lv_neT c74 rfl; have z15 : ¬ (x1).toInt = 15 := lv_neT c82 rfl; have z16 : ¬ (x1).toInt = 16 := lv_neT c87 rfl; have z17 : ¬ (x1).toInt = 17 := lv_neT c92 rfl; omega) (by decide) ?_
                                      refine jw_iload_n dL_types_505 rfl ?_
                                      rcases jw_if hq with ⟨c97, hq⟩ | ⟨c97, hq⟩
                                      · refine jw_if_eq_t (tgt := 525) dL_types_506 (by decide) c97 ?_
                                        refine jw_forget [false, false, false] (L' := [none, none, none]) rfl ?_
                                        exact l_L_types_b525  hq
                                      · refine jw_if_eq_f (tgt := 525) dL_types_506 (by decide) c97 ?_
                                        refine jw_aload_n dL_types_509 (o := x0) rfl ?_
                                        refine jw_ldc2 dL_types_510 cw_L_67 ?_
                                        refine jw_bipush dL_types_513 (v := (6 : Int32)) (by decide) ?_
                                        obtain ⟨w99, h98, ew99, hq⟩ := jw_b2_spec hq
                                        refine jw_callS (As := [va_rf x0, .long (3789327980196 : Int64), .int (6 : Int32)]) (S := []) (v := some (.int w99)) dL_types_515 mt_L_typed st_L_typed lk_L_23 (c_L_typed ew99) rfl (by decide) (Nat.le_of_ble_eq_true rfl) rfl ?_
                                        rcases jw_if hq with ⟨c100, hq⟩ | ⟨c100, hq⟩
                                        · refine jw_if_eq_t (tgt := 525) dL_types_518 (by decide) c100 ?_
                                          refine jw_forget [false, false, false] (L' := [none, none, none]) rfl ?_
                                          exact l_L_types_b525  hq
                                        · refine jw_if_eq_f (tgt := 525) dL_types_518 (by decide) c100 ?_
                                          refine jw_iconst dL_types_521 (v := (1 : Int32)) (by decide) ?_
                                          refine jw_goto (tgt := 526) dL_types_522 (by decide) ?_
                                          refine jw_forget [false, false, false] (L' := [none, none, none]) rfl ?_
                                          exact l_L_types_b526  hq

set_option maxRecDepth 100000 in
set_option maxHeartbeats 4000000 in
theorem l_L_types {hi : jw_H} {h : jw_H} {x0 : Option Nat} {x1 : Int32} {r : Int32} {h' : jw_H} (hq : f_L_types  h x0 x1 = some (r, h')) : jw_E 10 uL_types hi 0 [some (va_rf x0), some (.int x1), none] [] h (.inl (some (.int r))) h' := by
  unfold f_L_types at hq
  refine jw_aload_n dL_types_0 (o := x0) rfl ?_
  obtain ⟨a1, ea1, hq⟩ := Option.bind_eq_some_iff.mp hq
  obtain ⟨eoa1, eta1⟩ := jw_rc_spec ea1
  obtain ⟨w3, h2, ew3, hq⟩ := jw_b2_spec hq
  refine jw_callV (As := []) (S := []) (a := a1) (v := some (.int w3)) dL_types_1 mt_X11_wipe in_X11_wipe se_X11_wipe lk_L_17 (c_X11_wipe ew3) eta1 (by decide) rfl rfl (by decide) (Nat.le_of_ble_eq_true rfl) (by cases eoa1; rfl) ?_
  rcases jw_if hq with ⟨c4, hq⟩ | ⟨c4, hq⟩
  · refine jw_if_lt_t (tgt := 11) dL_types_4 (by decide) c4 ?_
    refine jw_iconst dL_types_11 (v := (0 : Int32)) (by decide) ?_
    exact l_L_types_b12  hq
  · refine jw_if_lt_f (tgt := 11) dL_types_4 (by decide) c4 ?_
    refine jw_iconst dL_types_7 (v := (1 : Int32)) (by decide) ?_
    refine jw_goto (tgt := 12) dL_types_8 (by decide) ?_
    exact l_L_types_b12  hq

theorem c_L_types {h : jw_H} {x0 : Option Nat} {x1 : Int32} {r : Int32} {h' : jw_H} (hq : f_L_types h x0 x1 = some (r, h')) : jw_Con (Cond.code yL_types cL_types 3 (some .boolean)) yL_types 10 [va_rf x0, .int x1] h (.inl (some (.int r))) h' :=
  jw_con false (plainFor_of_name (by decide +kernel)) (fun z => nomatch z) (by simp [jw_ent, jw_sl0_nil, jw_sl0_int, jw_sl0_long, jw_sl0_ref, jw_sl0_rf, jw_sl0_scr, List.replicate]) (by simp [jw_sl0_nil, jw_sl0_int, jw_sl0_long, jw_sl0_ref, jw_sl0_rf, jw_sl0_scr]) (l_L_types hq)

/-! L_undone -/
abbrev uL_undone : jw_U := (yL_undone.cls, cL_undone, 11, false, (some .boolean), some [], none)

noncomputable def g_L_undone_b116 (h : jw_H) (t0 : Int32) : Option (Int32 × jw_H) :=
 (jw_rb t0).bind fun v1 =>
 some (t0, h)

noncomputable def g_L_undone_b115 (h : jw_H)  : Option (Int32 × jw_H) :=
 g_L_undone_b116  h (0 : Int32)

noncomputable def g_L_undone_b233 (h : jw_H) (t0 : Int32) : Option (Int32 × jw_H) :=
 (jw_rb t0).bind fun v1 =>
 some (t0, h)

noncomputable def g_L_undone_b232 (h : jw_H)  : Option (Int32 × jw_H) :=
 g_L_undone_b233  h (0 : Int32)

noncomputable def g_L_undone_b205 (h : jw_H) (x0 : Option Nat) (x8 : Int32) (t0 : Int32) : Option (Int32 × jw_H) :=
 if t0 = 0 then (g_L_undone_b232  h )
 else ((jw_rc h 11 x0).bind fun a2 =>
 jw_b2 (f_X11_run h a2) fun ww4 h3 =>
 jw_iw ww4 fun w4 =>
 if w4 = x8 then ((jw_rc h3 11 x0).bind fun a6 =>
 jw_b2 (f_X11_isSound h3 a6) fun w8 h7 =>
 if w8 = 0 then (g_L_undone_b232  h7 )
 else (g_L_undone_b233  h7 (1 : Int32)))
 else (g_L_undone_b232  h3 ))

noncomputable def g_L_undone_b204 (h : jw_H) (x0 : Option Nat) (x8 : Int32) : Option (Int32 × jw_H) :=
 g_L_undone_b205  h x0 x8 (0 : Int32)

noncomputable def g_L_undone_b147 (h : jw_H) (x0 : Option Nat) (x2 : Int64) (x8 : Int32) (t0 : Int32) : Option (Int32 × jw_H) :=
 (jw_rc h 11 x0).bind fun a1 =>
 jw_b2 (f_X11_deeds h a1) fun w3 h2 =>
 (jw_rc h2 11 x0).bind fun a4 =>
 jw_b2 (f_X11_undoRun h2 a4) fun ww6 h5 =>
 jw_iw ww6 fun w6 =>
 if t0 = 0 then (g_L_undone_b204  h5 x0 x8)
 else (if w6 < (1 : Int32) then (g_L_undone_b204  h5 x0 x8)
 else (if x8 < w6 then (g_L_undone_b204  h5 x0 x8)
 else ((jw_rc h5 11 x0).bind fun a10 =>
 jw_b2 (f_X11_deeds h5 a10) fun w12 h11 =>
 if w12 = (w3 - w6) then (jw_b2 (f_L_all h11 x0) fun w15 h14 =>
 if (lg_cmp w15 x2) = 0 then (g_L_undone_b205  h14 x0 x8 (1 : Int32))
 else (g_L_undone_b204  h14 x0 x8))
 else (g_L_undone_b204  h11 x0 x8))))

noncomputable def g_L_undone_b142 (h : jw_H) (x0 : Option Nat) (x2 : Int64) (x8 : Int32) : Option (Int32 × jw_H) :=
 g_L_undone_b147  h x0 x2 x8 (1 : Int32)

noncomputable def g_L_undone_b146 (h : jw_H) (x0 : Option Nat) (x2 : Int64) (x8 : Int32) : Option (Int32 × jw_H) :=
 g_L_undone_b147  h x0 x2 x8 (0 : Int32)

noncomputable def g_L_undone_b132 (h : jw_H) (x0 : Option Nat) (x2 : Int64) (x4 : Int64) (x8 : Int32) : Option (Int32 × jw_H) :=
 jw_b2 (f_L_lines h x0) fun w2 h1 =>
 if (lg_cmp w2 x4) = 0 then (g_L_undone_b142  h1 x0 x2 x8)
 else (g_L_undone_b146  h1 x0 x2 x8)

noncomputable def g_L_undone_b117 (h : jw_H) (x0 : Option Nat) (x1 : Int32) (x2 : Int64) (x4 : Int64) (x7 : Int32) (x8 : Int32) : Option (Int32 × jw_H) :=
 if x7 = 0 then (g_L_undone_b146  h x0 x2 x8)
 else (if x1 = (2 : Int32) then (g_L_undone_b132  h x0 x2 x4 x8)
 else (if x1 = (3 : Int32) then (g_L_undone_b132  h x0 x2 x4 x8)
 else (g_L_undone_b142  h x0 x2 x8)))

noncomputable def g_L_undone_b81 (h : jw_H) (x0 : Option Nat) (x1 : Int32) (x2 : Int64) (x4 : Int64) (x6 : Int32) (x8 : Int32) (t0 : Int32) : Option (Int32 × jw_H) :=
 if t0 = 0 then (g_L_undone_b117  h x0 x1 x2 x4 t0 x8)
 else (if x8 = 0 then (jw_b2 (f_L_all h x0) fun w4 h3 =>
 if (lg_cmp w4 x2) = 0 then ((jw_rc h3 11 x0).bind fun a6 =>
 jw_b2 (f_X11_deeds h3 a6) fun w8 h7 =>
 if w8 = x6 then (g_L_undone_b116  h7 (1 : Int32))
 else (g_L_undone_b115  h7 ))
 else (g_L_undone_b115  h3 ))
 else (g_L_undone_b117  h x0 x1 x2 x4 t0 x8))

noncomputable def g_L_undone_b76 (h : jw_H) (x0 : Option Nat) (x1 : Int32) (x2 : Int64) (x4 : Int64) (x6 : Int32) (x8 : Int32) : Option (Int32 × jw_H) :=
 g_L_undone_b81  h x0 x1 x2 x4 x6 x8 (1 : Int32)

noncomputable def g_L_undone_b80 (h : jw_H) (x0 : Option Nat) (x1 : Int32) (x2 : Int64) (x4 : Int64) (x6 : Int32) (x8 : Int32) : Option (Int32 × jw_H) :=
 g_L_undone_b81  h x0 x1 x2 x4 x6 x8 (0 : Int32)

noncomputable def g_L_undone_b38 (h : jw_H) (x0 : Option Nat) (x1 : Int32) (x2 : Int64) (x4 : Int64) (x6 : Int32) (t0 : Int32) : Option (Int32 × jw_H) :=
 (jw_rc h 11 x0).bind fun a1 =>
 jw_b2 (f_X11_run h a1) fun ww3 h2 =>
 jw_iw ww3 fun w3 =>
 if t0 = 0 then (g_L_undone_b80  h2 x0 x1 x2 x4 x6 w3)
 else ((jw_rc h2 11 x0).bind fun a5 =>
 jw_b2 (f_X11_isSound h2 a5) fun w7 h6 =>
 if w7 = 0 then (g_L_undone_b80  h6 x0 x1 x2 x4 x6 w3)
 else (if w3 < 0 then (g_L_undone_b80  h6 x0 x1 x2 x4 x6 w3)
 else ((jw_rc h6 11 x0).bind fun a10 =>
 jw_b2 (f_X11_reason h6 a10) fun w12 h11 =>
 if w12 = 0 then (g_L_undone_b76  h11 x0 x1 x2 x4 x6 w3)
 else (if (2 : Int32) ≤ w3 then (g_L_undone_b80  h11 x0 x1 x2 x4 x6 w3)
 else (g_L_undone_b76  h11 x0 x1 x2 x4 x6 w3)))))

noncomputable def g_L_undone_b37 (h : jw_H) (x0 : Option Nat) (x1 : Int32) (x2 : Int64) (x4 : Int64) (x6 : Int32) : Option (Int32 × jw_H) :=
 g_L_undone_b38  h x0 x1 x2 x4 x6 (0 : Int32)

noncomputable def f_L_undone (h : jw_H) (x0 : Option Nat) (x1 : Int32) : Option (Int32 × jw_H) :=
 jw_b2 (f_L_all h x0) fun w2 h1 =>
 jw_b2 (f_L_lines h1 x0) fun w4 h3 =>
 (jw_rc h3 11 x0).bind fun a5 =>
 jw_b2 (f_X11_deeds h3 a5) fun w7 h6 =>
 jw_b2 (f_L_types h6 x0 x1) fun w9 h8 =>
 if w9 = 0 then (g_L_undone_b37  h8 x0 x1 w2 w4 w7)
 else ((jw_rc h8 11 x0).bind fun a11 =>
 jw_b2 (f_X11_fault h8 a11) fun w13 h12 =>
 if w13 = (-1 : Int32) then (g_L_undone_b38  h12 x0 x1 w2 w4 w7 (1 : Int32))
 else (g_L_undone_b37  h12 x0 x1 w2 w4 w7))

set_option maxRecDepth 100000 in
set_option maxHeartbeats 4000000 in
theorem l_L_undone_b116 {hi : jw_H} {h : jw_H} {t0 : Int32} {r : Int32} {h' : jw_H} (hq : g_L_undone_b116  h t0 = some (r, h')) : jw_E 14 uL_undone hi 116 [none, none, none, none, none, none, none, none, none, none, none] [.int t0] h (.inl (some (.int r))) h' := by
  unfold g_L_undone_b116 at hq
  obtain ⟨v1, ev1, hq⟩ := Option.bind_eq_some_iff.mp hq
  cases hq
  exact jw_iret (ty := .boolean) dL_undone_116 rfl (jw_rb_spec ev1)

set_option maxRecDepth 100000 in
set_option maxHeartbeats 4000000 in
theorem l_L_undone_b115 {hi : jw_H} {h : jw_H}  {r : Int32} {h' : jw_H} (hq : g_L_undone_b115  h  = some (r, h')) : jw_E 14 uL_undone hi 115 [none, none, none, none, none, none, none, none, none, none, none] [] h (.inl (some (.int r))) h' := by
  unfold g_L_undone_b115 at hq
  refine jw_iconst dL_undone_115 (v := (0 : Int32)) (by decide) ?_
  exact l_L_undone_b116  hq

set_option maxRecDepth 100000 in
set_option maxHeartbeats 4000000 in
theorem l_L_undone_b233 {hi : jw_H} {h : jw_H} {t0 : Int32} {r : Int32} {h' : jw_H} (hq : g_L_undone_b233  h t0 = some (r, h')) : jw_E 14 uL_undone hi 233 [none, none, none, none, none, none, none, none, none, none, none] [.int t0] h (.inl (some (.int r))) h' := by
  unfold g_L_undone_b233 at hq
  obtain ⟨v1, ev1, hq⟩ := Option.bind_eq_some_iff.mp hq
  cases hq
  exact jw_iret (ty := .boolean) dL_undone_233 rfl (jw_rb_spec ev1)

set_option maxRecDepth 100000 in
set_option maxHeartbeats 4000000 in
theorem l_L_undone_b232 {hi : jw_H} {h : jw_H}  {r : Int32} {h' : jw_H} (hq : g_L_undone_b232  h  = some (r, h')) : jw_E 14 uL_undone hi 232 [none, none, none, none, none, none, none, none, none, none, none] [] h (.inl (some (.int r))) h' := by
  unfold g_L_undone_b232 at hq
  refine jw_iconst dL_undone_232 (v := (0 : Int32)) (by decide) ?_
  exact l_L_undone_b233  hq

set_option maxRecDepth 100000 in
set_option maxHeartbeats 4000000 in
theorem l_L_undone_b205 {hi : jw_H} {h : jw_H} {x0 : Option Nat} {x8 : Int32} {t0 : Int32} {r : Int32} {h' : jw_H} (hq : g_L_undone_b205  h x0 x8 t0 = some (r, h')) : jw_E 14 uL_undone hi 205 [some (va_rf x0), none, none, none, none, none, none, none, some (.int x8), none, none] [.int t0] h (.inl (some (.int r))) h' := by
  unfold g_L_undone_b205 at hq
  refine jw_istore (L' := [some (va_rf x0), none, none, none, none, none, none, some (.int t0), some (.int x8), none, none]) dL_undone_205 (Nat.le_of_ble_eq_true rfl) rfl ?_
  refine jw_iload dL_undone_207 rfl ?_
  rcases jw_if hq with ⟨c1, hq⟩ | ⟨c1, hq⟩
  · refine jw_if_eq_t (tgt := 232) dL_undone_209 (by decide) c1 ?_
    refine jw_forget [false, true, true, true, true, true, true, false, false, true, true] (L' := [none, none, none, none, none, none, none, none, none, none, none]) rfl ?_
    exact l_L_undone_b232  hq
  · refine jw_if_eq_f (tgt := 232) dL_undone_209 (by decide) c1 ?_
    refine jw_aload_n dL_undone_212 (o := x0) rfl ?_
    obtain ⟨a2, ea2, hq⟩ := Option.bind_eq_some_iff.mp hq
    obtain ⟨eoa2, eta2⟩ := jw_rc_spec ea2
    obtain ⟨ww4, h3, ew4, hq⟩ := jw_b2_spec hq
    rcases ww4 with w4 | Ew4
    · replace hq := jw_iw_l hq
      refine jw_callV (As := []) (S := []) (a := a2) (v := some (.int w4)) dL_undone_213 mt_X11_run in_X11_run se_X11_run lk_L_115 (c_X11_run ew4) eta2 (by decide) rfl rfl (by decide) (Nat.le_of_ble_eq_true rfl) (by cases eoa2; rfl) ?_
      refine jw_iload dL_undone_216 rfl ?_
      rcases jw_if hq with ⟨c5, hq⟩ | ⟨c5, hq⟩
      · refine jw_icmp_ne_f (tgt := 232) dL_undone_218 (by decide) c5 ?_
        refine jw_aload_n dL_undone_221 (o := x0) rfl ?_
        obtain ⟨a6, ea6, hq⟩ := Option.bind_eq_some_iff.mp hq
        obtain ⟨eoa6, eta6⟩ := jw_rc_spec ea6
        obtain ⟨w8, h7, ew8, hq⟩ := jw_b2_spec hq
        refine jw_callV (As := []) (S := []) (a := a6) (v := some (.int w8)) dL_undone_222 mt_X11_isSound in_X11_isSound se_X11_isSound lk_L_118 (c_X11_isSound ew8) eta6 (by decide) rfl rfl (by decide) (Nat.le_of_ble_eq_true rfl) (by cases eoa6; rfl) ?_
        rcases jw_if hq with ⟨c9, hq⟩ | ⟨c9, hq⟩
        · refine jw_if_eq_t (tgt := 232) dL_undone_225 (by decide) c9 ?_
          refine jw_forget [false, true, true, true, true, true, true, false, false, true, true] (L' := [none, none, none, none, none, none, none, none, none, none, none]) rfl ?_
          exact l_L_undone_b232  hq
        · refine jw_if_eq_f (tgt := 232) dL_undone_225 (by decide) c9 ?_
          refine jw_iconst dL_undone_228 (v := (1 : Int32)) (by decide) ?_
          refine jw_goto (tgt := 233) dL_undone_229 (by decide) ?_
          refine jw_forget [false, true, true, true, true, true, true, false, false, true, true] (L' := [none, none, none, none, none, none, none, none, none, none, none]) rfl ?_
          exact l_L_undone_b233  hq
      · refine jw_icmp_ne_t (tgt := 232) dL_undone_218 (by decide) c5 ?_
        refine jw_forget [false, true, true, true, true, true, true, false, false, true, true] (L' := [none, none, none, none, none, none, none, none, none, none, none]) rfl ?_
        exact l_L_undone_b232  hq
    · exact nomatch hq

set_option maxRecDepth 100000 in
set_option maxHeartbeats 4000000 in
theorem l_L_undone_b204 {hi : jw_H} {h : jw_H} {x0 : Option Nat} {x8 : Int32} {r : Int32} {h' : jw_H} (hq : g_L_undone_b204  h x0 x8 = some (r, h')) : jw_E 14 uL_undone hi 204 [some (va_rf x0), none, none, none, none, none, none, none, some (.int x8), none, none] [] h (.inl (some (.int r))) h' := by
  unfold g_L_undone_b204 at hq
  refine jw_iconst dL_undone_204 (v := (0 : Int32)) (by decide) ?_
  exact l_L_undone_b205  hq

set_option maxRecDepth 100000 in
set_option maxHeartbeats 4000000 in
theorem l_L_undone_b147 {hi : jw_H} {h : jw_H} {x0 : Option Nat} {x2 : Int64} {x8 : Int32} {t0 : Int32} {r : Int32} {h' : jw_H} (hq : g_L_undone_b147  h x0 x2 x8 t0 = some (r, h')) : jw_E 14 uL_undone hi 147 [some (va_rf x0), none, some (.long x2), none, none, none, none, none, some (.int x8), none, none] [.int t0] h (.inl (some (.int r))) h' := by
  unfold g_L_undone_b147 at hq
  refine jw_istore (L' := [some (va_rf x0), none, some (.long x2), none, none, none, none, some (.int t0), some (.int x8), none, none]) dL_undone_147 (Nat.le_of_ble_eq_true rfl) rfl ?_
  refine jw_aload_n dL_undone_149 (o := x0) rfl ?_
  obtain ⟨a1, ea1, hq⟩ := Option.bind_eq_some_iff.mp hq
  obtain ⟨eoa1, eta1⟩ := jw_rc_spec ea1
  obtain ⟨w3, h2, ew3, hq⟩ := jw_b2_spec hq
  refine jw_callV (As := []) (S := []) (a := a1) (v := some (.int w3)) dL_undone_150 mt_X11_deeds in_X11_deeds se_X11_deeds lk_L_105 (c_X11_deeds ew3) eta1 (by decide) rfl rfl (by decide) (Nat.le_of_ble_eq_true rfl) (by cases eoa1; rfl) ?_
  refine jw_istore (L' := [some (va_rf x0), none, some (.long x2), none, none, none, none, some (.int t0), some (.int x8), some (.int w3), none]) dL_undone_153 (Nat.le_of_ble_eq_true rfl) rfl ?_
  refine jw_aload_n dL_undone_155 (o := x0) rfl ?_
  obtain ⟨a4, ea4, hq⟩ := Option.bind_eq_some_iff.mp hq
  obtain ⟨eoa4, eta4⟩ := jw_rc_spec ea4
  obtain ⟨ww6, h5, ew6, hq⟩ := jw_b2_spec hq
  rcases ww6 with w6 | Ew6
  · replace hq := jw_iw_l hq
    refine jw_callV (As := []) (S := []) (a := a4) (v := some (.int w6)) dL_undone_156 mt_X11_undoRun in_X11_undoRun se_X11_undoRun lk_L_125 (c_X11_undoRun ew6) eta4 (by decide) rfl rfl (by decide) (Nat.le_of_ble_eq_true rfl) (by cases eoa4; rfl) ?_
    refine jw_istore (L' := [some (va_rf x0), none, some (.long x2), none, none, none, none, some (.int t0), some (.int x8), some (.int w3), some (.int w6)]) dL_undone_159 (Nat.le_of_ble_eq_true rfl) rfl ?_
    refine jw_iload dL_undone_161 rfl ?_
    rcases jw_if hq with ⟨c7, hq⟩ | ⟨c7, hq⟩
    · refine jw_if_eq_t (tgt := 204) dL_undone_163 (by decide) c7 ?_
      refine jw_forget [true, true, false, true, true, true, true, false, true, false, false] (L' := [some (va_rf x0), none, none, none, none, none, none, none, some (.int x8), none, none]) rfl ?_
      exact l_L_undone_b204  hq
    · refine jw_if_eq_f (tgt := 204) dL_undone_163 (by decide) c7 ?_
      refine jw_iload dL_undone_166 rfl ?_
      refine jw_iconst dL_undone_168 (v := (1 : Int32)) (by decide) ?_
      rcases jw_if hq with ⟨c8, hq⟩ | ⟨c8, hq⟩
      · refine jw_icmp_lt_t (tgt := 204) dL_undone_169 (by decide) c8 ?_
        refine jw_forget [true, true, false, true, true, true, true, false, true, false, false] (L' := [some (va_rf x0), none, none, none, none, none, none, none, some (.int x8), none, none]) rfl ?_
        exact l_L_undone_b204  hq
      · refine jw_icmp_lt_f (tgt := 204) dL_undone_169 (by decide) c8 ?_
        refine jw_iload dL_undone_172 rfl ?_
        refine jw_iload dL_undone_174 rfl ?_
        rcases jw_if hq with ⟨c9, hq⟩ | ⟨c9, hq⟩
        · refine jw_icmp_gt_t (tgt := 204) dL_undone_176 (by decide) c9 ?_
          refine jw_forget [true, true, false, true, true, true, true, false, true, false, false] (L' := [some (va_rf x0), none, none, none, none, none, none, none, some (.int x8), none, none]) rfl ?_
          exact l_L_undone_b204  hq
        · refine jw_icmp_gt_f (tgt := 204) dL_undone_176 (by decide) c9 ?_
          refine jw_aload_n dL_undone_179 (o := x0) rfl ?_
          obtain ⟨a10, ea10, hq⟩ := Option.bind_eq_some_iff.mp hq
          obtain ⟨eoa10, eta10⟩ := jw_rc_spec ea10
          obtain ⟨w12, h11, ew12, hq⟩ := jw_b2_spec hq
          refine jw_callV (As := []) (S := []) (a := a10) (v := some (.int w12)) dL_undone_180 mt_X11_deeds in_X11_deeds se_X11_deeds lk_L_105 (c_X11_deeds ew12) eta10 (by decide) rfl rfl (by decide) (Nat.le_of_ble_eq_true rfl) (by cases eoa10; rfl) ?_
          refine jw_iload dL_undone_183 rfl ?_
          refine jw_iload dL_undone_185 rfl ?_
          refine jw_isub dL_undone_187 ?_
          rcases jw_if hq with ⟨c13, hq⟩ | ⟨c13, hq⟩
          · refine jw_icmp_ne_f (tgt := 204) dL_undone_188 (by decide) c13 ?_
            refine jw_aload_n dL_undone_191 (o := x0) rfl ?_
            obtain ⟨w15, h14, ew15, hq⟩ := jw_b2_spec hq
            refine jw_callS (As := [va_rf x0]) (S := []) (v := some (.long w15)) dL_undone_192 mt_L_all st_L_all lk_L_100 (c_L_all ew15) rfl (by decide) (Nat.le_of_ble_eq_true rfl) rfl ?_
            refine jw_lload_n dL_undone_195 rfl ?_
            refine jw_lcmp dL_undone_196 ?_
            rcases jw_if hq with ⟨c16, hq⟩ | ⟨c16, hq⟩
            · refine jw_if_ne_f (tgt := 204) dL_undone_197 (by decide) c16 ?_
              refine jw_iconst dL_undone_200 (v := (1 : Int32)) (by decide) ?_
              refine jw_goto (tgt := 205) dL_undone_201 (by decide) ?_
              refine jw_forget [true, true, false, true, true, true, true, false, true, false, false] (L' := [some (va_rf x0), none, none, none, none, none, none, none, some (.int x8), none, none]) rfl ?_
              exact l_L_undone_b205  hq
            · refine jw_if_ne_t (tgt := 204) dL_undone_197 (by decide) c16 ?_
              refine jw_forget [true, true, false, true, true, true, true, false, true, false, false] (L' := [some (va_rf x0), none, none, none, none, none, none, none, some (.int x8), none, none]) rfl ?_
              exact l_L_undone_b204  hq
          · refine jw_icmp_ne_t (tgt := 204) dL_undone_188 (by decide) c13 ?_
            refine jw_forget [true, true, false, true, true, true, true, false, true, false, false] (L' := [some (va_rf x0), none, none, none, none, none, none, none, some (.int x8), none, none]) rfl ?_
            exact l_L_undone_b204  hq
  · exact nomatch hq

set_option maxRecDepth 100000 in
set_option maxHeartbeats 4000000 in
theorem l_L_undone_b142 {hi : jw_H} {h : jw_H} {x0 : Option Nat} {x2 : Int64} {x8 : Int32} {r : Int32} {h' : jw_H} (hq : g_L_undone_b142  h x0 x2 x8 = some (r, h')) : jw_E 14 uL_undone hi 142 [some (va_rf x0), none, some (.long x2), none, none, none, none, none, some (.int x8), none, none] [] h (.inl (some (.int r))) h' := by
  unfold g_L_undone_b142 at hq
  refine jw_iconst dL_undone_142 (v := (1 : Int32)) (by decide) ?_
  refine jw_goto (tgt := 147) dL_undone_143 (by decide) ?_
  exact l_L_undone_b147  hq

set_option maxRecDepth 100000 in
set_option maxHeartbeats 4000000 in
theorem l_L_undone_b146 {hi : jw_H} {h : jw_H} {x0 : Option Nat} {x2 : Int64} {x8 : Int32} {r : Int32} {h' : jw_H} (hq : g_L_undone_b146  h x0 x2 x8 = some (r, h')) : jw_E 14 uL_undone hi 146 [some (va_rf x0), none, some (.long x2), none, none, none, none, none, some (.int x8), none, none] [] h (.inl (some (.int r))) h' := by
  unfold g_L_undone_b146 at hq
  refine jw_iconst dL_undone_146 (v := (0 : Int32)) (by decide) ?_
  exact l_L_undone_b147  hq

set_option maxRecDepth 100000 in
set_option maxHeartbeats 4000000 in
theorem l_L_undone_b132 {hi : jw_H} {h : jw_H} {x0 : Option Nat} {x2 : Int64} {x4 : Int64} {x8 : Int32} {r : Int32} {h' : jw_H} (hq : g_L_undone_b132  h x0 x2 x4 x8 = some (r, h')) : jw_E 14 uL_undone hi 132 [some (va_rf x0), none, some (.long x2), none, some (.long x4), none, none, none, some (.int x8), none, none] [] h (.inl (some (.int r))) h' := by
  unfold g_L_undone_b132 at hq
  refine jw_aload_n dL_undone_132 (o := x0) rfl ?_
  obtain ⟨w2, h1, ew2, hq⟩ := jw_b2_spec hq
  refine jw_callS (As := [va_rf x0]) (S := []) (v := some (.long w2)) dL_undone_133 mt_L_lines st_L_lines lk_L_103 (c_L_lines ew2) rfl (by decide) (Nat.le_of_ble_eq_true rfl) rfl ?_
  refine jw_lload dL_undone_136 rfl ?_
  refine jw_lcmp dL_undone_138 ?_
  rcases jw_if hq with ⟨c3, hq⟩ | ⟨c3, hq⟩
  · refine jw_if_ne_f (tgt := 146) dL_undone_139 (by decide) c3 ?_
    refine jw_forget [true, true, true, true, false, true, true, true, true, true, true] (L' := [some (va_rf x0), none, some (.long x2), none, none, none, none, none, some (.int x8), none, none]) rfl ?_
    exact l_L_undone_b142  hq
  · refine jw_if_ne_t (tgt := 146) dL_undone_139 (by decide) c3 ?_
    refine jw_forget [true, true, true, true, false, true, true, true, true, true, true] (L' := [some (va_rf x0), none, some (.long x2), none, none, none, none, none, some (.int x8), none, none]) rfl ?_
    exact l_L_undone_b146  hq

set_option maxRecDepth 100000 in
set_option maxHeartbeats 4000000 in
theorem l_L_undone_b117 {hi : jw_H} {h : jw_H} {x0 : Option Nat} {x1 : Int32} {x2 : Int64} {x4 : Int64} {x7 : Int32} {x8 : Int32} {r : Int32} {h' : jw_H} (hq : g_L_undone_b117  h x0 x1 x2 x4 x7 x8 = some (r, h')) : jw_E 14 uL_undone hi 117 [some (va_rf x0), some (.int x1), some (.long x2), none, some (.long x4), none, none, some (.int x7), some (.int x8), none, none] [] h (.inl (some (.int r))) h' := by
  unfold g_L_undone_b117 at hq
  refine jw_iload dL_undone_117 rfl ?_
  rcases jw_if hq with ⟨c1, hq⟩ | ⟨c1, hq⟩
  · refine jw_if_eq_t (tgt := 146) dL_undone_119 (by decide) c1 ?_
    refine jw_forget [true, false, true, true, false, true, true, false, true, true, true] (L' := [some (va_rf x0), none, some (.long x2), none, none, none, none, none, some (.int x8), none, none]) rfl ?_
    exact l_L_undone_b146  hq
  · refine jw_if_eq_f (tgt := 146) dL_undone_119 (by decide) c1 ?_
    refine jw_iload_n dL_undone_122 rfl ?_
    refine jw_iconst dL_undone_123 (v := (2 : Int32)) (by decide) ?_
    rcases jw_if hq with ⟨c2, hq⟩ | ⟨c2, hq⟩
    · refine jw_icmp_eq_t (tgt := 132) dL_undone_124 (by decide) c2 ?_
      refine jw_forget [true, false, true, true, true, true, true, false, true, true, true] (L' := [some (va_rf x0), none, some (.long x2), none, some (.long x4), none, none, none, some (.int x8), none, none]) rfl ?_
      exact l_L_undone_b132  hq
    · refine jw_icmp_eq_f (tgt := 132) dL_undone_124 (by decide) c2 ?_
      refine jw_iload_n dL_undone_127 rfl ?_
      refine jw_iconst dL_undone_128 (v := (3 : Int32)) (by decide) ?_
      rcases jw_if hq with ⟨c3, hq⟩ | ⟨c3, hq⟩
      · refine jw_icmp_ne_f (tgt := 142) dL_undone_129 (by decide) c3 ?_
        refine jw_forget [true, false, true, true, true, true, true, false, true, true, true] (L' := [some (va_rf x0), none, some (.long x2), none, some (.long x4), none, none, none, some (.int x8), none, none]) rfl ?_
        exact l_L_undone_b132  hq
      · refine jw_icmp_ne_t (tgt := 142) dL_undone_129 (by decide) c3 ?_
        refine jw_forget [true, false, true, true, false, true, true, false, true, true, true] (L' := [some (va_rf x0), none, some (.long x2), none, none, none, none, none, some (.int x8), none, none]) rfl ?_
        exact l_L_undone_b142  hq

set_option maxRecDepth 100000 in
set_option maxHeartbeats 4000000 in
theorem l_L_undone_b81 {hi : jw_H} {h : jw_H} {x0 : Option Nat} {x1 : Int32} {x2 : Int64} {x4 : Int64} {x6 : Int32} {x8 : Int32} {t0 : Int32} {r : Int32} {h' : jw_H} (hq : g_L_undone_b81  h x0 x1 x2 x4 x6 x8 t0 = some (r, h')) : jw_E 14 uL_undone hi 81 [some (va_rf x0), some (.int x1), some (.long x2), none, some (.long x4), none, some (.int x6), none, some (.int x8), none, none] [.int t0] h (.inl (some (.int r))) h' := by
  unfold g_L_undone_b81 at hq
  refine jw_istore (L' := [some (va_rf x0), some (.int x1), some (.long x2), none, some (.long x4), none, some (.int x6), some (.int t0), some (.int x8), none, none]) dL_undone_81 (Nat.le_of_ble_eq_true rfl) rfl ?_
  refine jw_iload dL_undone_83 rfl ?_
  rcases jw_if hq with ⟨c1, hq⟩ | ⟨c1, hq⟩
  · refine jw_if_eq_t (tgt := 117) dL_undone_85 (by decide) c1 ?_
    refine jw_forget [true, true, true, true, true, true, false, true, true, true, true] (L' := [some (va_rf x0), some (.int x1), some (.long x2), none, some (.long x4), none, none, some (.int t0), some (.int x8), none, none]) rfl ?_
    exact l_L_undone_b117  hq
  · refine jw_if_eq_f (tgt := 117) dL_undone_85 (by decide) c1 ?_
    refine jw_iload dL_undone_88 rfl ?_
    rcases jw_if hq with ⟨c2, hq⟩ | ⟨c2, hq⟩
    · refine jw_if_ne_f (tgt := 117) dL_undone_90 (by decide) c2 ?_
      refine jw_aload_n dL_undone_93 (o := x0) rfl ?_
      obtain ⟨w4, h3, ew4, hq⟩ := jw_b2_spec hq
      refine jw_callS (As := [va_rf x0]) (S := []) (v := some (.long w4)) dL_undone_94 mt_L_all st_L_all lk_L_100 (c_L_all ew4) rfl (by decide) (Nat.le_of_ble_eq_true rfl) rfl ?_
      refine jw_lload_n dL_undone_97 rfl ?_
      refine jw_lcmp dL_undone_98 ?_
      rcases jw_if hq with ⟨c5, hq⟩ | ⟨c5, hq⟩
      · refine jw_if_ne_f (tgt := 115) dL_undone_99 (by decide) c5 ?_
        refine jw_aload_n dL_undone_102 (o := x0) rfl ?_
        obtain ⟨a6, ea6, hq⟩ := Option.bind_eq_some_iff.mp hq
        obtain ⟨eoa6, eta6⟩ := jw_rc_spec ea6
        obtain ⟨w8, h7, ew8, hq⟩ := jw_b2_spec hq
        refine jw_callV (As := []) (S := []) (a := a6) (v := some (.int w8)) dL_undone_103 mt_X11_deeds in_X11_deeds se_X11_deeds lk_L_105 (c_X11_deeds ew8) eta6 (by decide) rfl rfl (by decide) (Nat.le_of_ble_eq_true rfl) (by cases eoa6; rfl) ?_
        refine jw_iload dL_undone_106 rfl ?_
        rcases jw_if hq with ⟨c9, hq⟩ | ⟨c9, hq⟩
        · refine jw_icmp_ne_f (tgt := 115) dL_undone_108 (by decide) c9 ?_
          refine jw_iconst dL_undone_111 (v := (1 : Int32)) (by decide) ?_
          refine jw_goto (tgt := 116) dL_undone_112 (by decide) ?_
          refine jw_forget [false, false, false, true, false, true, false, false, false, true, true] (L' := [none, none, none, none, none, none, none, none, none, none, none]) rfl ?_
          exact l_L_undone_b116  hq
        · refine jw_icmp_ne_t (tgt := 115) dL_undone_108 (by decide) c9 ?_
          refine jw_forget [false, false, false, true, false, true, false, false, false, true, true] (L' := [none, none, none, none, none, none, none, none, none, none, none]) rfl ?_
          exact l_L_undone_b115  hq
      · refine jw_if_ne_t (tgt := 115) dL_undone_99 (by decide) c5 ?_
        refine jw_forget [false, false, false, true, false, true, false, false, false, true, true] (L' := [none, none, none, none, none, none, none, none, none, none, none]) rfl ?_
        exact l_L_undone_b115  hq
    · refine jw_if_ne_t (tgt := 117) dL_undone_90 (by decide) c2 ?_
      refine jw_forget [true, true, true, true, true, true, false, true, true, true, true] (L' := [some (va_rf x0), some (.int x1), some (.long x2), none, some (.long x4), none, none, some (.int t0), some (.int x8), none, none]) rfl ?_
      exact l_L_undone_b117  hq

set_option maxRecDepth 100000 in
set_option maxHeartbeats 4000000 in
theorem l_L_undone_b76 {hi : jw_H} {h : jw_H} {x0 : Option Nat} {x1 : Int32} {x2 : Int64} {x4 : Int64} {x6 : Int32} {x8 : Int32} {r : Int32} {h' : jw_H} (hq : g_L_undone_b76  h x0 x1 x2 x4 x6 x8 = some (r, h')) : jw_E 14 uL_undone hi 76 [some (va_rf x0), some (.int x1), some (.long x2), none, some (.long x4), none, some (.int x6), none, some (.int x8), none, none] [] h (.inl (some (.int r))) h' := by
  unfold g_L_undone_b76 at hq
  refine jw_iconst dL_undone_76 (v := (1 : Int32)) (by decide) ?_
  refine jw_goto (tgt := 81) dL_undone_77 (by decide) ?_
  exact l_L_undone_b81  hq

set_option maxRecDepth 100000 in
set_option maxHeartbeats 4000000 in
theorem l_L_undone_b80 {hi : jw_H} {h : jw_H} {x0 : Option Nat} {x1 : Int32} {x2 : Int64} {x4 : Int64} {x6 : Int32} {x8 : Int32} {r : Int32} {h' : jw_H} (hq : g_L_undone_b80  h x0 x1 x2 x4 x6 x8 = some (r, h')) : jw_E 14 uL_undone hi 80 [some (va_rf x0), some (.int x1), some (.long x2), none, some (.long x4), none, some (.int x6), none, some (.int x8), none, none] [] h (.inl (some (.int r))) h' := by
  unfold g_L_undone_b80 at hq
  refine jw_iconst dL_undone_80 (v := (0 : Int32)) (by decide) ?_
  exact l_L_undone_b81  hq

set_option maxRecDepth 100000 in
set_option maxHeartbeats 4000000 in
theorem l_L_undone_b38 {hi : jw_H} {h : jw_H} {x0 : Option Nat} {x1 : Int32} {x2 : Int64} {x4 : Int64} {x6 : Int32} {t0 : Int32} {r : Int32} {h' : jw_H} (hq : g_L_undone_b38  h x0 x1 x2 x4 x6 t0 = some (r, h')) : jw_E 14 uL_undone hi 38 [some (va_rf x0), some (.int x1), some (.long x2), none, some (.long x4), none, some (.int x6), none, none, none, none] [.int t0] h (.inl (some (.int r))) h' := by
  unfold g_L_undone_b38 at hq
  refine jw_istore (L' := [some (va_rf x0), some (.int x1), some (.long x2), none, some (.long x4), none, some (.int x6), some (.int t0), none, none, none]) dL_undone_38 (Nat.le_of_ble_eq_true rfl) rfl ?_
  refine jw_aload_n dL_undone_40 (o := x0) rfl ?_
  obtain ⟨a1, ea1, hq⟩ := Option.bind_eq_some_iff.mp hq
  obtain ⟨eoa1, eta1⟩ := jw_rc_spec ea1
  obtain ⟨ww3, h2, ew3, hq⟩ := jw_b2_spec hq
  rcases ww3 with w3 | Ew3
  · replace hq := jw_iw_l hq
    refine jw_callV (As := []) (S := []) (a := a1) (v := some (.int w3)) dL_undone_41 mt_X11_run in_X11_run se_X11_run lk_L_115 (c_X11_run ew3) eta1 (by decide) rfl rfl (by decide) (Nat.le_of_ble_eq_true rfl) (by cases eoa1; rfl) ?_
    refine jw_istore (L' := [some (va_rf x0), some (.int x1), some (.long x2), none, some (.long x4), none, some (.int x6), some (.int t0), some (.int w3), none, none]) dL_undone_44 (Nat.le_of_ble_eq_true rfl) rfl ?_
    refine jw_iload dL_undone_46 rfl ?_
    rcases jw_if hq with ⟨c4, hq⟩ | ⟨c4, hq⟩
    · refine jw_if_eq_t (tgt := 80) dL_undone_48 (by decide) c4 ?_
      refine jw_forget [true, true, true, true, true, true, true, false, true, true, true] (L' := [some (va_rf x0), some (.int x1), some (.long x2), none, some (.long x4), none, some (.int x6), none, some (.int w3), none, none]) rfl ?_
      exact l_L_undone_b80  hq
    · refine jw_if_eq_f (tgt := 80) dL_undone_48 (by decide) c4 ?_
      refine jw_aload_n dL_undone_51 (o := x0) rfl ?_
      obtain ⟨a5, ea5, hq⟩ := Option.bind_eq_some_iff.mp hq
      obtain ⟨eoa5, eta5⟩ := jw_rc_spec ea5
      obtain ⟨w7, h6, ew7, hq⟩ := jw_b2_spec hq
      refine jw_callV (As := []) (S := []) (a := a5) (v := some (.int w7)) dL_undone_52 mt_X11_isSound in_X11_isSound se_X11_isSound lk_L_118 (c_X11_isSound ew7) eta5 (by decide) rfl rfl (by decide) (Nat.le_of_ble_eq_true rfl) (by cases eoa5; rfl) ?_
      rcases jw_if hq with ⟨c8, hq⟩ | ⟨c8, hq⟩
      · refine jw_if_eq_t (tgt := 80) dL_undone_55 (by decide) c8 ?_
        refine jw_forget [true, true, true, true, true, true, true, false, true, true, true] (L' := [some (va_rf x0), some (.int x1), some (.long x2), none, some (.long x4), none, some (.int x6), none, some (.int w3), none, none]) rfl ?_
        exact l_L_undone_b80  hq
      · refine jw_if_eq_f (tgt := 80) dL_undone_55 (by decide) c8 ?_
        refine jw_iload dL_undone_58 rfl ?_
        rcases jw_if hq with ⟨c9, hq⟩ | ⟨c9, hq⟩
        · refine jw_if_lt_t (tgt := 80) dL_undone_60 (by decide) c9 ?_
          refine jw_forget [true, true, true, true, true, true, true, false, true, true, true] (L' := [some (va_rf x0), some (.int x1), some (.long x2), none, some (.long x4), none, some (.int x6), none, some (.int w3), none, none]) rfl ?_
          exact l_L_undone_b80  hq
        · refine jw_if_lt_f (tgt := 80) dL_undone_60 (by decide) c9 ?_
          refine jw_aload_n dL_undone_63 (o := x0) rfl ?_
          obtain ⟨a10, ea10, hq⟩ := Option.bind_eq_some_iff.mp hq
          obtain ⟨eoa10, eta10⟩ := jw_rc_spec ea10
          obtain ⟨w12, h11, ew12, hq⟩ := jw_b2_spec hq
          refine jw_callV (As := []) (S := []) (a := a10) (v := some (.int w12)) dL_undone_64 mt_X11_reason in_X11_reason se_X11_reason lk_L_122 (c_X11_reason ew12) eta10 (by decide) rfl rfl (by decide) (Nat.le_of_ble_eq_true rfl) (by cases eoa10; rfl) ?_
          rcases jw_if hq with ⟨c13, hq⟩ | ⟨c13, hq⟩
          · refine jw_if_eq_t (tgt := 76) dL_undone_67 (by decide) c13 ?_
            refine jw_forget [true, true, true, true, true, true, true, false, true, true, true] (L' := [some (va_rf x0), some (.int x1), some (.long x2), none, some (.long x4), none, some (.int x6), none, some (.int w3), none, none]) rfl ?_
            exact l_L_undone_b76  hq
          · refine jw_if_eq_f (tgt := 76) dL_undone_67 (by decide) c13 ?_
            refine jw_iload dL_undone_70 rfl ?_
            refine jw_iconst dL_undone_72 (v := (2 : Int32)) (by decide) ?_
            rcases jw_if hq with ⟨c14, hq⟩ | ⟨c14, hq⟩
            · refine jw_icmp_ge_t (tgt := 80) dL_undone_73 (by decide) c14 ?_
              refine jw_forget [true, true, true, true, true, true, true, false, true, true, true] (L' := [some (va_rf x0), some (.int x1), some (.long x2), none, some (.long x4), none, some (.int x6), none, some (.int w3), none, none]) rfl ?_
              exact l_L_undone_b80  hq
            · refine jw_icmp_ge_f (tgt := 80) dL_undone_73 (by decide) c14 ?_
              refine jw_forget [true, true, true, true, true, true, true, false, true, true, true] (L' := [some (va_rf x0), some (.int x1), some (.long x2), none, some (.long x4), none, some (.int x6), none, some (.int w3), none, none]) rfl ?_
              exact l_L_undone_b76  hq
  · exact nomatch hq

set_option maxRecDepth 100000 in
set_option maxHeartbeats 4000000 in
theorem l_L_undone_b37 {hi : jw_H} {h : jw_H} {x0 : Option Nat} {x1 : Int32} {x2 : Int64} {x4 : Int64} {x6 : Int32} {r : Int32} {h' : jw_H} (hq : g_L_undone_b37  h x0 x1 x2 x4 x6 = some (r, h')) : jw_E 14 uL_undone hi 37 [some (va_rf x0), some (.int x1), some (.long x2), none, some (.long x4), none, some (.int x6), none, none, none, none] [] h (.inl (some (.int r))) h' := by
  unfold g_L_undone_b37 at hq
  refine jw_iconst dL_undone_37 (v := (0 : Int32)) (by decide) ?_
  exact l_L_undone_b38  hq

set_option maxRecDepth 100000 in
set_option maxHeartbeats 4000000 in
theorem l_L_undone {hi : jw_H} {h : jw_H} {x0 : Option Nat} {x1 : Int32} {r : Int32} {h' : jw_H} (hq : f_L_undone  h x0 x1 = some (r, h')) : jw_E 14 uL_undone hi 0 [some (va_rf x0), some (.int x1), none, none, none, none, none, none, none, none, none] [] h (.inl (some (.int r))) h' := by
  unfold f_L_undone at hq
  refine jw_aload_n dL_undone_0 (o := x0) rfl ?_
  obtain ⟨w2, h1, ew2, hq⟩ := jw_b2_spec hq
  refine jw_callS (As := [va_rf x0]) (S := []) (v := some (.long w2)) dL_undone_1 mt_L_all st_L_all lk_L_100 (c_L_all ew2) rfl (by decide) (Nat.le_of_ble_eq_true rfl) rfl ?_
  refine jw_lstore_n (L' := [some (va_rf x0), some (.int x1), some (.long w2), none, none, none, none, none, none, none, none]) dL_undone_4 (Nat.le_of_ble_eq_true rfl) rfl ?_
  refine jw_aload_n dL_undone_5 (o := x0) rfl ?_
  obtain ⟨w4, h3, ew4, hq⟩ := jw_b2_spec hq
  refine jw_callS (As := [va_rf x0]) (S := []) (v := some (.long w4)) dL_undone_6 mt_L_lines st_L_lines lk_L_103 (c_L_lines ew4) rfl (by decide) (Nat.le_of_ble_eq_true rfl) rfl ?_
  refine jw_lstore (L' := [some (va_rf x0), some (.int x1), some (.long w2), none, some (.long w4), none, none, none, none, none, none]) dL_undone_9 (Nat.le_of_ble_eq_true rfl) rfl ?_
  refine jw_aload_n dL_undone_11 (o := x0) rfl ?_
  obtain ⟨a5, ea5, hq⟩ := Option.bind_eq_some_iff.mp hq
  obtain ⟨eoa5, eta5⟩ := jw_rc_spec ea5
  obtain ⟨w7, h6, ew7, hq⟩ := jw_b2_spec hq
  refine jw_callV (As := []) (S := []) (a := a5) (v := some (.int w7)) dL_undone_12 mt_X11_deeds in_X11_deeds se_X11_deeds lk_L_105 (c_X11_deeds ew7) eta5 (by decide) rfl rfl (by decide) (Nat.le_of_ble_eq_true rfl) (by cases eoa5; rfl) ?_
  refine jw_istore (L' := [some (va_rf x0), some (.int x1), some (.long w2), none, some (.long w4), none, some (.int w7), none, none, none, none]) dL_undone_15 (Nat.le_of_ble_eq_true rfl) rfl ?_
  refine jw_aload_n dL_undone_17 (o := x0) rfl ?_
  refine jw_iload_n dL_undone_18 rfl ?_
  obtain ⟨w9, h8, ew9, hq⟩ := jw_b2_spec hq
  refine jw_callS (As := [va_rf x0, .int x1]) (S := []) (v := some (.int w9)) dL_undone_19 mt_L_types st_L_types lk_L_108 (c_L_types ew9) rfl (by decide) (Nat.le_of_ble_eq_true rfl) rfl ?_
  rcases jw_if hq with ⟨c10, hq⟩ | ⟨c10, hq⟩
  · refine jw_if_eq_t (tgt := 37) dL_undone_22 (by decide) c10 ?_
    exact l_L_undone_b37  hq
  · refine jw_if_eq_f (tgt := 37) dL_undone_22 (by decide) c10 ?_
    refine jw_aload_n dL_undone_25 (o := x0) rfl ?_
    obtain ⟨a11, ea11, hq⟩ := Option.bind_eq_some_iff.mp hq
    obtain ⟨eoa11, eta11⟩ := jw_rc_spec ea11
    obtain ⟨w13, h12, ew13, hq⟩ := jw_b2_spec hq
    refine jw_callV (As := []) (S := []) (a := a11) (v := some (.int w13)) dL_undone_26 mt_X11_fault in_X11_fault se_X11_fault lk_L_112 (c_X11_fault ew13) eta11 (by decide) rfl rfl (by decide) (Nat.le_of_ble_eq_true rfl) (by cases eoa11; rfl) ?_
    refine jw_iconst dL_undone_29 (v := (-1 : Int32)) (by decide) ?_
    rcases jw_if hq with ⟨c14, hq⟩ | ⟨c14, hq⟩
    · refine jw_icmp_ne_f (tgt := 37) dL_undone_30 (by decide) c14 ?_
      refine jw_iconst dL_undone_33 (v := (1 : Int32)) (by decide) ?_
      refine jw_goto (tgt := 38) dL_undone_34 (by decide) ?_
      exact l_L_undone_b38  hq
    · refine jw_icmp_ne_t (tgt := 37) dL_undone_30 (by decide) c14 ?_
      exact l_L_undone_b37  hq

theorem c_L_undone {h : jw_H} {x0 : Option Nat} {x1 : Int32} {r : Int32} {h' : jw_H} (hq : f_L_undone h x0 x1 = some (r, h')) : jw_Con (Cond.code yL_undone cL_undone 11 (some .boolean)) yL_undone 14 [va_rf x0, .int x1] h (.inl (some (.int r))) h' :=
  jw_con false (plainFor_of_name (by decide +kernel)) (fun z => nomatch z) (by simp [jw_ent, jw_sl0_nil, jw_sl0_int, jw_sl0_long, jw_sl0_ref, jw_sl0_rf, jw_sl0_scr, List.replicate]) (by simp [jw_sl0_nil, jw_sl0_int, jw_sl0_long, jw_sl0_ref, jw_sl0_rf, jw_sl0_scr]) (l_L_undone hq)

/-! L_streamed -/
abbrev uL_streamed : jw_U := (yL_streamed.cls, cL_streamed, 9, false, (some .boolean), some [], none)

noncomputable def g_L_streamed_b187 (h : jw_H) (t0 : Int32) : Option (Int32 × jw_H) :=
 (jw_rb t0).bind fun v1 =>
 some (t0, h)

noncomputable def g_L_streamed_b182 (h : jw_H)  : Option (Int32 × jw_H) :=
 g_L_streamed_b187  h (1 : Int32)

noncomputable def g_L_streamed_b186 (h : jw_H)  : Option (Int32 × jw_H) :=
 g_L_streamed_b187  h (0 : Int32)

noncomputable def g_L_streamed_b161 (h : jw_H) (x0 : Option Nat) (x2 : Int64) (x8 : Int32) : Option (Int32 × jw_H) :=
 if x8 < 0 then (g_L_streamed_b182  h )
 else ((jw_rc h 11 x0).bind fun a2 =>
 jw_b2 (f_X11_undo h a2) fun ww4 h3 =>
 jw_iw ww4 fun w4 =>
 if w4 < 0 then (g_L_streamed_b186  h3 )
 else (jw_b2 (f_L_all h3 x0) fun w7 h6 =>
 if (lg_cmp w7 x2) = 0 then (g_L_streamed_b182  h6 )
 else (g_L_streamed_b186  h6 )))

noncomputable def g_L_streamed_b147 (h : jw_H) (x0 : Option Nat) (x2 : Int64) (x8 : Int32) : Option (Int32 × jw_H) :=
 if 0 ≤ x8 then (g_L_streamed_b161  h x0 x2 x8)
 else (jw_b2 (f_L_all h x0) fun w3 h2 =>
 if (lg_cmp w3 x2) = 0 then (g_L_streamed_b161  h2 x0 x2 x8)
 else (g_L_streamed_b186  h2 ))

noncomputable def g_L_streamed_b115 (h : jw_H) (x0 : Option Nat) (x2 : Int64) (x5 : Int32) (x6 : Int64) (t0 : Int32) : Option (Int32 × jw_H) :=
 (jw_rc h 11 x0).bind fun a1 =>
 jw_b2 (f_X11_stream h a1 (0 : Int32)) fun ww3 h2 =>
 jw_iw ww3 fun w3 =>
 if t0 = 0 then (g_L_streamed_b186  h2 )
 else (if 0 < x5 then (g_L_streamed_b147  h2 x0 x2 w3)
 else (if w3 < 0 then (g_L_streamed_b147  h2 x0 x2 w3)
 else (jw_b2 (f_L_rows h2 x0) fun w8 h7 =>
 if (lg_cmp w8 x6) = 0 then (g_L_streamed_b147  h7 x0 x2 w3)
 else (g_L_streamed_b186  h7 ))))

noncomputable def g_L_streamed_b114 (h : jw_H) (x0 : Option Nat) (x2 : Int64) (x5 : Int32) (x6 : Int64) : Option (Int32 × jw_H) :=
 g_L_streamed_b115  h x0 x2 x5 x6 (0 : Int32)

noncomputable def g_L_streamed_b101 (h : jw_H) (x0 : Option Nat) (x2 : Int64) (x5 : Int32) (x6 : Int64) : Option (Int32 × jw_H) :=
 jw_b2 (f_L_all h x0) fun w2 h1 =>
 if (lg_cmp w2 x2) = 0 then (g_L_streamed_b115  h1 x0 x2 x5 x6 (1 : Int32))
 else (g_L_streamed_b114  h1 x0 x2 x5 x6)

noncomputable def g_L_streamed_b58 (h : jw_H) (x0 : Option Nat) (t0 : Int32) : Option (Int32 × jw_H) :=
 jw_b2 (f_L_all h x0) fun w2 h1 =>
 (jw_rc h1 11 x0).bind fun a3 =>
 jw_b2 (f_X11_play h1 a3 (0 : Int32)) fun ww5 h4 =>
 jw_iw ww5 fun w5 =>
 (jw_rc h4 11 x0).bind fun a6 =>
 jw_b2 (f_X11_reason h4 a6) fun w8 h7 =>
 jw_b2 (f_L_rows h7 x0) fun w10 h9 =>
 if t0 = 0 then (g_L_streamed_b114  h9 x0 w2 w8 w10)
 else (if w5 = 0 then (g_L_streamed_b101  h9 x0 w2 w8 w10)
 else ((jw_rc h9 11 x0).bind fun a13 =>
 jw_b2 (f_X11_undoRun h9 a13) fun ww15 h14 =>
 jw_iw ww15 fun w15 =>
 if w15 = w5 then (g_L_streamed_b101  h14 x0 w2 w8 w10)
 else (g_L_streamed_b114  h14 x0 w2 w8 w10)))

noncomputable def g_L_streamed_b57 (h : jw_H) (x0 : Option Nat) : Option (Int32 × jw_H) :=
 g_L_streamed_b58  h x0 (0 : Int32)

noncomputable def f_L_streamed (h : jw_H) (x0 : Option Nat) : Option (Int32 × jw_H) :=
 (jw_rc h 11 x0).bind fun a1 =>
 jw_b2 (f_X11_wipe h a1) fun w3 h2 =>
 if w3 < 0 then (g_L_streamed_b57  h2 x0)
 else (jw_b2 (f_L_typed h2 x0 (4278295482728184229 : Int64) (9 : Int32)) fun w6 h5 =>
 if w6 = 0 then (g_L_streamed_b57  h5 x0)
 else (jw_b2 (f_L_typed h5 x0 (3442313063511620901 : Int64) (9 : Int32)) fun w9 h8 =>
 if w9 = 0 then (g_L_streamed_b57  h8 x0)
 else (jw_b2 (f_L_typed h8 x0 (28412667713524411 : Int64) (8 : Int32)) fun w12 h11 =>
 if w12 = 0 then (g_L_streamed_b57  h11 x0)
 else ((jw_rc h11 11 x0).bind fun a14 =>
 jw_b2 (f_X11_keep h11 a14 (0 : Int32)) fun ww16 h15 =>
 jw_iw ww16 fun w16 =>
 if w16 = (26 : Int32) then (g_L_streamed_b58  h15 x0 (1 : Int32))
 else (g_L_streamed_b57  h15 x0)))))

set_option maxRecDepth 100000 in
set_option maxHeartbeats 4000000 in
theorem l_L_streamed_b187 {hi : jw_H} {h : jw_H} {t0 : Int32} {r : Int32} {h' : jw_H} (hq : g_L_streamed_b187  h t0 = some (r, h')) : jw_E 14 uL_streamed hi 187 [none, none, none, none, none, none, none, none, none] [.int t0] h (.inl (some (.int r))) h' := by
  unfold g_L_streamed_b187 at hq
  obtain ⟨v1, ev1, hq⟩ := Option.bind_eq_some_iff.mp hq
  cases hq
  exact jw_iret (ty := .boolean) dL_streamed_187 rfl (jw_rb_spec ev1)

set_option maxRecDepth 100000 in
set_option maxHeartbeats 4000000 in
theorem l_L_streamed_b182 {hi : jw_H} {h : jw_H}  {r : Int32} {h' : jw_H} (hq : g_L_streamed_b182  h  = some (r, h')) : jw_E 14 uL_streamed hi 182 [none, none, none, none, none, none, none, none, none] [] h (.inl (some (.int r))) h' := by
  unfold g_L_streamed_b182 at hq
  refine jw_iconst dL_streamed_182 (v := (1 : Int32)) (by decide) ?_
  refine jw_goto (tgt := 187) dL_streamed_183 (by decide) ?_
  exact l_L_streamed_b187  hq

set_option maxRecDepth 100000 in
set_option maxHeartbeats 4000000 in
theorem l_L_streamed_b186 {hi : jw_H} {h : jw_H}  {r : Int32} {h' : jw_H} (hq : g_L_streamed_b186  h  = some (r, h')) : jw_E 14 uL_streamed hi 186 [none, none, none, none, none, none, none, none, none] [] h (.inl (some (.int r))) h' := by
  unfold g_L_streamed_b186 at hq
  refine jw_iconst dL_streamed_186 (v := (0 : Int32)) (by decide) ?_
  exact l_L_streamed_b187  hq

set_option maxRecDepth 100000 in
set_option maxHeartbeats 4000000 in
theorem l_L_streamed_b161 {hi : jw_H} {h : jw_H} {x0 : Option Nat} {x2 : Int64} {x8 : Int32} {r : Int32} {h' : jw_H} (hq : g_L_streamed_b161  h x0 x2 x8 = some (r, h')) : jw_E 14 uL_streamed hi 161 [some (va_rf x0), none, some (.long x2), none, none, none, none, none, some (.int x8)] [] h (.inl (some (.int r))) h' := by
  unfold g_L_streamed_b161 at hq
  refine jw_iload dL_streamed_161 rfl ?_
  rcases jw_if hq with ⟨c1, hq⟩ | ⟨c1, hq⟩
  · refine jw_if_lt_t (tgt := 182) dL_streamed_163 (by decide) c1 ?_
    refine jw_forget [false, true, false, true, true, true, true, true, false] (L' := [none, none, none, none, none, none, none, none, none]) rfl ?_
    exact l_L_streamed_b182  hq
  · refine jw_if_lt_f (tgt := 182) dL_streamed_163 (by decide) c1 ?_
    refine jw_aload_n dL_streamed_166 (o := x0) rfl ?_
    obtain ⟨a2, ea2, hq⟩ := Option.bind_eq_some_iff.mp hq
    obtain ⟨eoa2, eta2⟩ := jw_rc_spec ea2
    obtain ⟨ww4, h3, ew4, hq⟩ := jw_b2_spec hq
    rcases ww4 with w4 | Ew4
    · replace hq := jw_iw_l hq
      refine jw_callV (As := []) (S := []) (a := a2) (v := some (.int w4)) dL_streamed_167 mt_X11_undo in_X11_undo se_X11_undo lk_L_143 (c_X11_undo ew4) eta2 (by decide) rfl rfl (by decide) (Nat.le_of_ble_eq_true rfl) (by cases eoa2; rfl) ?_
      rcases jw_if hq with ⟨c5, hq⟩ | ⟨c5, hq⟩
      · refine jw_if_lt_t (tgt := 186) dL_streamed_170 (by decide) c5 ?_
        refine jw_forget [false, true, false, true, true, true, true, true, false] (L' := [none, none, none, none, none, none, none, none, none]) rfl ?_
        exact l_L_streamed_b186  hq
      · refine jw_if_lt_f (tgt := 186) dL_streamed_170 (by decide) c5 ?_
        refine jw_aload_n dL_streamed_173 (o := x0) rfl ?_
        obtain ⟨w7, h6, ew7, hq⟩ := jw_b2_spec hq
        refine jw_callS (As := [va_rf x0]) (S := []) (v := some (.long w7)) dL_streamed_174 mt_L_all st_L_all lk_L_100 (c_L_all ew7) rfl (by decide) (Nat.le_of_ble_eq_true rfl) rfl ?_
        refine jw_lload_n dL_streamed_177 rfl ?_
        refine jw_lcmp dL_streamed_178 ?_
        rcases jw_if hq with ⟨c8, hq⟩ | ⟨c8, hq⟩
        · refine jw_if_ne_f (tgt := 186) dL_streamed_179 (by decide) c8 ?_
          refine jw_forget [false, true, false, true, true, true, true, true, false] (L' := [none, none, none, none, none, none, none, none, none]) rfl ?_
          exact l_L_streamed_b182  hq
        · refine jw_if_ne_t (tgt := 186) dL_streamed_179 (by decide) c8 ?_
          refine jw_forget [false, true, false, true, true, true, true, true, false] (L' := [none, none, none, none, none, none, none, none, none]) rfl ?_
          exact l_L_streamed_b186  hq
    · exact nomatch hq

set_option maxRecDepth 100000 in
set_option maxHeartbeats 4000000 in
theorem l_L_streamed_b147 {hi : jw_H} {h : jw_H} {x0 : Option Nat} {x2 : Int64} {x8 : Int32} {r : Int32} {h' : jw_H} (hq : g_L_streamed_b147  h x0 x2 x8 = some (r, h')) : jw_E 14 uL_streamed hi 147 [some (va_rf x0), none, some (.long x2), none, none, none, none, none, some (.int x8)] [] h (.inl (some (.int r))) h' := by
  unfold g_L_streamed_b147 at hq
  refine jw_iload dL_streamed_147 rfl ?_
  rcases jw_if hq with ⟨c1, hq⟩ | ⟨c1, hq⟩
  · refine jw_if_ge_t (tgt := 161) dL_streamed_149 (by decide) c1 ?_
    exact l_L_streamed_b161  hq
  · refine jw_if_ge_f (tgt := 161) dL_streamed_149 (by decide) c1 ?_
    refine jw_aload_n dL_streamed_152 (o := x0) rfl ?_
    obtain ⟨w3, h2, ew3, hq⟩ := jw_b2_spec hq
    refine jw_callS (As := [va_rf x0]) (S := []) (v := some (.long w3)) dL_streamed_153 mt_L_all st_L_all lk_L_100 (c_L_all ew3) rfl (by decide) (Nat.le_of_ble_eq_true rfl) rfl ?_
    refine jw_lload_n dL_streamed_156 rfl ?_
    refine jw_lcmp dL_streamed_157 ?_
    rcases jw_if hq with ⟨c4, hq⟩ | ⟨c4, hq⟩
    · refine jw_if_ne_f (tgt := 186) dL_streamed_158 (by decide) c4 ?_
      exact l_L_streamed_b161  hq
    · refine jw_if_ne_t (tgt := 186) dL_streamed_158 (by decide) c4 ?_
      refine jw_forget [false, true, false, true, true, true, true, true, false] (L' := [none, none, none, none, none, none, none, none, none]) rfl ?_
      exact l_L_streamed_b186  hq

set_option maxRecDepth 100000 in
set_option maxHeartbeats 4000000 in
theorem l_L_streamed_b115 {hi : jw_H} {h : jw_H} {x0 : Option Nat} {x2 : Int64} {x5 : Int32} {x6 : Int64} {t0 : Int32} {r : Int32} {h' : jw_H} (hq : g_L_streamed_b115  h x0 x2 x5 x6 t0 = some (r, h')) : jw_E 14 uL_streamed hi 115 [some (va_rf x0), none, some (.long x2), none, none, some (.int x5), some (.long x6), none, none] [.int t0] h (.inl (some (.int r))) h' := by
  unfold g_L_streamed_b115 at hq
  refine jw_istore_n (L' := [some (va_rf x0), some (.int t0), some (.long x2), none, none, some (.int x5), some (.long x6), none, none]) dL_streamed_115 (Nat.le_of_ble_eq_true rfl) ((jw_st1_of (j := 0) jw_long_rf).trans rfl) ?_
  refine jw_aload_n dL_streamed_116 (o := x0) rfl ?_
  refine jw_iconst dL_streamed_117 (v := (0 : Int32)) (by decide) ?_
  obtain ⟨a1, ea1, hq⟩ := Option.bind_eq_some_iff.mp hq
  obtain ⟨eoa1, eta1⟩ := jw_rc_spec ea1
  obtain ⟨ww3, h2, ew3, hq⟩ := jw_b2_spec hq
  rcases ww3 with w3 | Ew3
  · replace hq := jw_iw_l hq
    refine jw_callV (As := [.int (0 : Int32)]) (S := []) (a := a1) (v := some (.int w3)) dL_streamed_118 mt_X11_stream in_X11_stream se_X11_stream lk_L_140 (c_X11_stream ew3) eta1 (by decide) rfl rfl (by decide) (Nat.le_of_ble_eq_true rfl) (by cases eoa1; rfl) ?_
    refine jw_istore (L' := [some (va_rf x0), some (.int t0), some (.long x2), none, none, some (.int x5), some (.long x6), none, some (.int w3)]) dL_streamed_121 (Nat.le_of_ble_eq_true rfl) rfl ?_
    refine jw_iload_n dL_streamed_123 rfl ?_
    rcases jw_if hq with ⟨c4, hq⟩ | ⟨c4, hq⟩
    · refine jw_if_eq_t (tgt := 186) dL_streamed_124 (by decide) c4 ?_
      refine jw_forget [false, false, false, true, true, false, false, true, false] (L' := [none, none, none, none, none, none, none, none, none]) rfl ?_
      exact l_L_streamed_b186  hq
    · refine jw_if_eq_f (tgt := 186) dL_streamed_124 (by decide) c4 ?_
      refine jw_iload dL_streamed_127 rfl ?_
      rcases jw_if hq with ⟨c5, hq⟩ | ⟨c5, hq⟩
      · refine jw_if_gt_t (tgt := 147) dL_streamed_129 (by decide) c5 ?_
        refine jw_forget [true, false, true, true, true, false, false, true, true] (L' := [some (va_rf x0), none, some (.long x2), none, none, none, none, none, some (.int w3)]) rfl ?_
        exact l_L_streamed_b147  hq
      · refine jw_if_gt_f (tgt := 147) dL_streamed_129 (by decide) c5 ?_
        refine jw_iload dL_streamed_132 rfl ?_
        rcases jw_if hq with ⟨c6, hq⟩ | ⟨c6, hq⟩
        · refine jw_if_lt_t (tgt := 147) dL_streamed_134 (by decide) c6 ?_
          refine jw_forget [true, false, true, true, true, false, false, true, true] (L' := [some (va_rf x0), none, some (.long x2), none, none, none, none, none, some (.int w3)]) rfl ?_
          exact l_L_streamed_b147  hq
        · refine jw_if_lt_f (tgt := 147) dL_streamed_134 (by decide) c6 ?_
          refine jw_aload_n dL_streamed_137 (o := x0) rfl ?_
          obtain ⟨w8, h7, ew8, hq⟩ := jw_b2_spec hq
          refine jw_callS (As := [va_rf x0]) (S := []) (v := some (.long w8)) dL_streamed_138 mt_L_rows st_L_rows lk_L_83 (c_L_rows ew8) rfl (by decide) (Nat.le_of_ble_eq_true rfl) rfl ?_
          refine jw_lload dL_streamed_141 rfl ?_
          refine jw_lcmp dL_streamed_143 ?_
          rcases jw_if hq with ⟨c9, hq⟩ | ⟨c9, hq⟩
          · refine jw_if_ne_f (tgt := 186) dL_streamed_144 (by decide) c9 ?_
            refine jw_forget [true, false, true, true, true, false, false, true, true] (L' := [some (va_rf x0), none, some (.long x2), none, none, none, none, none, some (.int w3)]) rfl ?_
            exact l_L_streamed_b147  hq
          · refine jw_if_ne_t (tgt := 186) dL_streamed_144 (by decide) c9 ?_
            refine jw_forget [false, false, false, true, true, false, false, true, false] (L' := [none, none, none, none, none, none, none, none, none]) rfl ?_
            exact l_L_streamed_b186  hq
  · exact nomatch hq

set_option maxRecDepth 100000 in
set_option maxHeartbeats 4000000 in
theorem l_L_streamed_b114 {hi : jw_H} {h : jw_H} {x0 : Option Nat} {x2 : Int64} {x5 : Int32} {x6 : Int64} {r : Int32} {h' : jw_H} (hq : g_L_streamed_b114  h x0 x2 x5 x6 = some (r, h')) : jw_E 14 uL_streamed hi 114 [some (va_rf x0), none, some (.long x2), none, none, some (.int x5), some (.long x6), none, none] [] h (.inl (some (.int r))) h' := by
  unfold g_L_streamed_b114 at hq
  refine jw_iconst dL_streamed_114 (v := (0 : Int32)) (by decide) ?_
  exact l_L_streamed_b115  hq

set_option maxRecDepth 100000 in
set_option maxHeartbeats 4000000 in
theorem l_L_streamed_b101 {hi : jw_H} {h : jw_H} {x0 : Option Nat} {x2 : Int64} {x5 : Int32} {x6 : Int64} {r : Int32} {h' : jw_H} (hq : g_L_streamed_b101  h x0 x2 x5 x6 = some (r, h')) : jw_E 14 uL_streamed hi 101 [some (va_rf x0), none, some (.long x2), none, none, some (.int x5), some (.long x6), none, none] [] h (.inl (some (.int r))) h' := by
  unfold g_L_streamed_b101 at hq
  refine jw_aload_n dL_streamed_101 (o := x0) rfl ?_
  obtain ⟨w2, h1, ew2, hq⟩ := jw_b2_spec hq
  refine jw_callS (As := [va_rf x0]) (S := []) (v := some (.long w2)) dL_streamed_102 mt_L_all st_L_all lk_L_100 (c_L_all ew2) rfl (by decide) (Nat.le_of_ble_eq_true rfl) rfl ?_
  refine jw_lload_n dL_streamed_105 rfl ?_
  refine jw_lcmp dL_streamed_106 ?_
  rcases jw_if hq with ⟨c3, hq⟩ | ⟨c3, hq⟩
  · refine jw_if_ne_f (tgt := 114) dL_streamed_107 (by decide) c3 ?_
    refine jw_iconst dL_streamed_110 (v := (1 : Int32)) (by decide) ?_
    refine jw_goto (tgt := 115) dL_streamed_111 (by decide) ?_
    exact l_L_streamed_b115  hq
  · refine jw_if_ne_t (tgt := 114) dL_streamed_107 (by decide) c3 ?_
    exact l_L_streamed_b114  hq

set_option maxRecDepth 100000 in
set_option maxHeartbeats 4000000 in
theorem l_L_streamed_b58 {hi : jw_H} {h : jw_H} {x0 : Option Nat} {t0 : Int32} {r : Int32} {h' : jw_H} (hq : g_L_streamed_b58  h x0 t0 = some (r, h')) : jw_E 14 uL_streamed hi 58 [some (va_rf x0), none, none, none, none, none, none, none, none] [.int t0] h (.inl (some (.int r))) h' := by
  unfold g_L_streamed_b58 at hq
  refine jw_istore_n (L' := [some (va_rf x0), some (.int t0), none, none, none, none, none, none, none]) dL_streamed_58 (Nat.le_of_ble_eq_true rfl) ((jw_st1_of (j := 0) jw_long_rf).trans rfl) ?_
  refine jw_aload_n dL_streamed_59 (o := x0) rfl ?_
  obtain ⟨w2, h1, ew2, hq⟩ := jw_b2_spec hq
  refine jw_callS (As := [va_rf x0]) (S := []) (v := some (.long w2)) dL_streamed_60 mt_L_all st_L_all lk_L_100 (c_L_all ew2) rfl (by decide) (Nat.le_of_ble_eq_true rfl) rfl ?_
  refine jw_lstore_n (L' := [some (va_rf x0), some (.int t0), some (.long w2), none, none, none, none, none, none]) dL_streamed_63 (Nat.le_of_ble_eq_true rfl) rfl ?_
  refine jw_aload_n dL_streamed_64 (o := x0) rfl ?_
  refine jw_iconst dL_streamed_65 (v := (0 : Int32)) (by decide) ?_
  obtain ⟨a3, ea3, hq⟩ := Option.bind_eq_some_iff.mp hq
  obtain ⟨eoa3, eta3⟩ := jw_rc_spec ea3
  obtain ⟨ww5, h4, ew5, hq⟩ := jw_b2_spec hq
  rcases ww5 with w5 | Ew5
  · replace hq := jw_iw_l hq
    refine jw_callV (As := [.int (0 : Int32)]) (S := []) (a := a3) (v := some (.int w5)) dL_streamed_66 mt_X11_play in_X11_play se_X11_play lk_L_137 (c_X11_play ew5) eta3 (by decide) rfl rfl (by decide) (Nat.le_of_ble_eq_true rfl) (by cases eoa3; rfl) ?_
    refine jw_istore (L' := [some (va_rf x0), some (.int t0), some (.long w2), none, some (.int w5), none, none, none, none]) dL_streamed_69 (Nat.le_of_ble_eq_true rfl) rfl ?_
    refine jw_aload_n dL_streamed_71 (o := x0) rfl ?_
    obtain ⟨a6, ea6, hq⟩ := Option.bind_eq_some_iff.mp hq
    obtain ⟨eoa6, eta6⟩ := jw_rc_spec ea6
    obtain ⟨w8, h7, ew8, hq⟩ := jw_b2_spec hq
    refine jw_callV (As := []) (S := []) (a := a6) (v := some (.int w8)) dL_streamed_72 mt_X11_reason in_X11_reason se_X11_reason lk_L_122 (c_X11_reason ew8) eta6 (by decide) rfl rfl (by decide) (Nat.le_of_ble_eq_true rfl) (by cases eoa6; rfl) ?_
    refine jw_istore (L' := [some (va_rf x0), some (.int t0), some (.long w2), none, some (.int w5), some (.int w8), none, none, none]) dL_streamed_75 (Nat.le_of_ble_eq_true rfl) rfl ?_
    refine jw_aload_n dL_streamed_77 (o := x0) rfl ?_
    obtain ⟨w10, h9, ew10, hq⟩ := jw_b2_spec hq
    refine jw_callS (As := [va_rf x0]) (S := []) (v := some (.long w10)) dL_streamed_78 mt_L_rows st_L_rows lk_L_83 (c_L_rows ew10) rfl (by decide) (Nat.le_of_ble_eq_true rfl) rfl ?_
    refine jw_lstore (L' := [some (va_rf x0), some (.int t0), some (.long w2), none, some (.int w5), some (.int w8), some (.long w10), none, none]) dL_streamed_81 (Nat.le_of_ble_eq_true rfl) rfl ?_
    refine jw_iload_n dL_streamed_83 rfl ?_
    rcases jw_if hq with ⟨c11, hq⟩ | ⟨c11, hq⟩
    · refine jw_if_eq_t (tgt := 114) dL_streamed_84 (by decide) c11 ?_
      refine jw_forget [true, false, true, true, false, true, true, true, true] (L' := [some (va_rf x0), none, some (.long w2), none, none, some (.int w8), some (.long w10), none, none]) rfl ?_
      exact l_L_streamed_b114  hq
    · refine jw_if_eq_f (tgt := 114) dL_streamed_84 (by decide) c11 ?_
      refine jw_iload dL_streamed_87 rfl ?_
      rcases jw_if hq with ⟨c12, hq⟩ | ⟨c12, hq⟩
      · refine jw_if_eq_t (tgt := 101) dL_streamed_89 (by decide) c12 ?_
        refine jw_forget [true, false, true, true, false, true, true, true, true] (L' := [some (va_rf x0), none, some (.long w2), none, none, some (.int w8), some (.long w10), none, none]) rfl ?_
        exact l_L_streamed_b101  hq
      · refine jw_if_eq_f (tgt := 101) dL_streamed_89 (by decide) c12 ?_
        refine jw_aload_n dL_streamed_92 (o := x0) rfl ?_
        obtain ⟨a13, ea13, hq⟩ := Option.bind_eq_some_iff.mp hq
        obtain ⟨eoa13, eta13⟩ := jw_rc_spec ea13
        obtain ⟨ww15, h14, ew15, hq⟩ := jw_b2_spec hq
        rcases ww15 with w15 | Ew15
        · replace hq := jw_iw_l hq
          refine jw_callV (As := []) (S := []) (a := a13) (v := some (.int w15)) dL_streamed_93 mt_X11_undoRun in_X11_undoRun se_X11_undoRun lk_L_125 (c_X11_undoRun ew15) eta13 (by decide) rfl rfl (by decide) (Nat.le_of_ble_eq_true rfl) (by cases eoa13; rfl) ?_
          refine jw_iload dL_streamed_96 rfl ?_
          rcases jw_if hq with ⟨c16, hq⟩ | ⟨c16, hq⟩
          · refine jw_icmp_ne_f (tgt := 114) dL_streamed_98 (by decide) c16 ?_
            refine jw_forget [true, false, true, true, false, true, true, true, true] (L' := [some (va_rf x0), none, some (.long w2), none, none, some (.int w8), some (.long w10), none, none]) rfl ?_
            exact l_L_streamed_b101  hq
          · refine jw_icmp_ne_t (tgt := 114) dL_streamed_98 (by decide) c16 ?_
            refine jw_forget [true, false, true, true, false, true, true, true, true] (L' := [some (va_rf x0), none, some (.long w2), none, none, some (.int w8), some (.long w10), none, none]) rfl ?_
            exact l_L_streamed_b114  hq
        · exact nomatch hq
  · exact nomatch hq

set_option maxRecDepth 100000 in
set_option maxHeartbeats 4000000 in
theorem l_L_streamed_b57 {hi : jw_H} {h : jw_H} {x0 : Option Nat} {r : Int32} {h' : jw_H} (hq : g_L_streamed_b57  h x0 = some (r, h')) : jw_E 14 uL_streamed hi 57 [some (va_rf x0), none, none, none, none, none, none, none, none] [] h (.inl (some (.int r))) h' := by
  unfold g_L_streamed_b57 at hq
  refine jw_iconst dL_streamed_57 (v := (0 : Int32)) (by decide) ?_
  exact l_L_streamed_b58  hq

set_option maxRecDepth 100000 in
set_option maxHeartbeats 4000000 in
theorem l_L_streamed {hi : jw_H} {h : jw_H} {x0 : Option Nat} {r : Int32} {h' : jw_H} (hq : f_L_streamed  h x0 = some (r, h')) : jw_E 14 uL_streamed hi 0 [some (va_rf x0), none, none, none, none, none, none, none, none] [] h (.inl (some (.int r))) h' := by
  unfold f_L_streamed at hq
  refine jw_aload_n dL_streamed_0 (o := x0) rfl ?_
  obtain ⟨a1, ea1, hq⟩ := Option.bind_eq_some_iff.mp hq
  obtain ⟨eoa1, eta1⟩ := jw_rc_spec ea1
  obtain ⟨w3, h2, ew3, hq⟩ := jw_b2_spec hq
  refine jw_callV (As := []) (S := []) (a := a1) (v := some (.int w3)) dL_streamed_1 mt_X11_wipe in_X11_wipe se_X11_wipe lk_L_17 (c_X11_wipe ew3) eta1 (by decide) rfl rfl (by decide) (Nat.le_of_ble_eq_true rfl) (by cases eoa1; rfl) ?_
  rcases jw_if hq with ⟨c4, hq⟩ | ⟨c4, hq⟩
  · refine jw_if_lt_t (tgt := 57) dL_streamed_4 (by decide) c4 ?_
    exact l_L_streamed_b57  hq
  · refine jw_if_lt_f (tgt := 57) dL_streamed_4 (by decide) c4 ?_
    refine jw_aload_n dL_streamed_7 (o := x0) rfl ?_
    refine jw_ldc2 dL_streamed_8 cw_L_128 ?_
    refine jw_bipush dL_streamed_11 (v := (9 : Int32)) (by decide) ?_
    obtain ⟨w6, h5, ew6, hq⟩ := jw_b2_spec hq
    refine jw_callS (As := [va_rf x0, .long (4278295482728184229 : Int64), .int (9 : Int32)]) (S := []) (v := some (.int w6)) dL_streamed_13 mt_L_typed st_L_typed lk_L_23 (c_L_typed ew6) rfl (by decide) (Nat.le_of_ble_eq_true rfl) rfl ?_
    rcases jw_if hq with ⟨c7, hq⟩ | ⟨c7, hq⟩
    · refine jw_if_eq_t (tgt := 57) dL_streamed_16 (by decide) c7 ?_
      exact l_L_streamed_b57  hq
    · refine jw_if_eq_f (tgt := 57) dL_streamed_16 (by decide) c7 ?_
      refine jw_aload_n dL_streamed_19 (o := x0) rfl ?_
      refine jw_ldc2 dL_streamed_20 cw_L_130 ?_
      refine jw_bipush dL_streamed_23 (v := (9 : Int32)) (by decide) ?_
      obtain ⟨w9, h8, ew9, hq⟩ := jw_b2_spec hq
      refine jw_callS (As := [va_rf x0, .long (3442313063511620901 : Int64), .int (9 : Int32)]) (S := []) (v := some (.int w9)) dL_streamed_25 mt_L_typed st_L_typed lk_L_23 (c_L_typed ew9) rfl (by decide) (Nat.le_of_ble_eq_true rfl) rfl ?_
      rcases jw_if hq with ⟨c10, hq⟩ | ⟨c10, hq⟩
      · refine jw_if_eq_t (tgt := 57) dL_streamed_28 (by decide) c10 ?_
        exact l_L_streamed_b57  hq
      · refine jw_if_eq_f (tgt := 57) dL_streamed_28 (by decide) c10 ?_
        refine jw_aload_n dL_streamed_31 (o := x0) rfl ?_
        refine jw_ldc2 dL_streamed_32 cw_L_132 ?_
        refine jw_bipush dL_streamed_35 (v := (8 : Int32)) (by decide) ?_
        obtain ⟨w12, h11, ew12, hq⟩ := jw_b2_spec hq
        refine jw_callS (As := [va_rf x0, .long (28412667713524411 : Int64), .int (8 : Int32)]) (S := []) (v := some (.int w12)) dL_streamed_37 mt_L_typed st_L_typed lk_L_23 (c_L_typed ew12) rfl (by decide) (Nat.le_of_ble_eq_true rfl) rfl ?_
        rcases jw_if hq with ⟨c13, hq⟩ | ⟨c13, hq⟩
        · refine jw_if_eq_t (tgt := 57) dL_streamed_40 (by decide) c13 ?_
          exact l_L_streamed_b57  hq
        · refine jw_if_eq_f (tgt := 57) dL_streamed_40 (by decide) c13 ?_
          refine jw_aload_n dL_streamed_43 (o := x0) rfl ?_
          refine jw_iconst dL_streamed_44 (v := (0 : Int32)) (by decide) ?_
          obtain ⟨a14, ea14, hq⟩ := Option.bind_eq_some_iff.mp hq
          obtain ⟨eoa14, eta14⟩ := jw_rc_spec ea14
          obtain ⟨ww16, h15, ew16, hq⟩ := jw_b2_spec hq
          rcases ww16 with w16 | Ew16
          · replace hq := jw_iw_l hq
            refine jw_callV (As := [.int (0 : Int32)]) (S := []) (a := a14) (v := some (.int w16)) dL_streamed_45 mt_X11_keep in_X11_keep se_X11_keep lk_L_134 (c_X11_keep ew16) eta14 (by decide) rfl rfl (by decide) (Nat.le_of_ble_eq_true rfl) (by cases eoa14; rfl) ?_
            refine jw_bipush dL_streamed_48 (v := (26 : Int32)) (by decide) ?_
            rcases jw_if hq with ⟨c17, hq⟩ | ⟨c17, hq⟩
            · refine jw_icmp_ne_f (tgt := 57) dL_streamed_50 (by decide) c17 ?_
              refine jw_iconst dL_streamed_53 (v := (1 : Int32)) (by decide) ?_
              refine jw_goto (tgt := 58) dL_streamed_54 (by decide) ?_
              exact l_L_streamed_b58  hq
            · refine jw_icmp_ne_t (tgt := 57) dL_streamed_50 (by decide) c17 ?_
              exact l_L_streamed_b57  hq
          · exact nomatch hq

theorem c_L_streamed {h : jw_H} {x0 : Option Nat} {r : Int32} {h' : jw_H} (hq : f_L_streamed h x0 = some (r, h')) : jw_Con (Cond.code yL_streamed cL_streamed 9 (some .boolean)) yL_streamed 14 [va_rf x0] h (.inl (some (.int r))) h' :=
  jw_con false (plainFor_of_name (by decide +kernel)) (fun z => nomatch z) (by simp [jw_ent, jw_sl0_nil, jw_sl0_int, jw_sl0_long, jw_sl0_ref, jw_sl0_rf, jw_sl0_scr, List.replicate]) (by simp [jw_sl0_nil, jw_sl0_int, jw_sl0_long, jw_sl0_ref, jw_sl0_rf, jw_sl0_scr]) (l_L_streamed hq)

/-! L_oneByOne -/
abbrev uL_oneByOne : jw_U := (yL_oneByOne.cls, cL_oneByOne, 8, false, (some .boolean), some [], none)

noncomputable def g_L_oneByOne_b80 (h : jw_H) (t0 : Int32) : Option (Int32 × jw_H) :=
 (jw_rb t0).bind fun v1 =>
 some (t0, h)

noncomputable def g_L_oneByOne_b79 (h : jw_H)  : Option (Int32 × jw_H) :=
 g_L_oneByOne_b80  h (0 : Int32)

noncomputable def g_L_oneByOne_b62 (h : jw_H) (x0 : Option Nat) (x1 : Int64) (x3 : Int32) : Option (Int32 × jw_H) :=
 if x3 = 0 then (g_L_oneByOne_b79  h )
 else (jw_b2 (f_L_rows h x0) fun w3 h2 =>
 if (lg_cmp w3 x1) = 0 then (g_L_oneByOne_b80  h2 (1 : Int32))
 else (g_L_oneByOne_b79  h2 ))

noncomputable def g_L_oneByOne_b188 (k106 : jw_H → Option Nat → Int32 → Int64 → Int32 → Option (Int32 × jw_H)) (h : jw_H) (x0 : Option Nat) (x5 : Int64) (x7 : Int32) (t0 : Int32) : Option (Int32 × jw_H) :=
 k106 h x0 t0 x5 (x7 + (1 : Int32))

noncomputable def g_L_oneByOne_b187 (k106 : jw_H → Option Nat → Int32 → Int64 → Int32 → Option (Int32 × jw_H)) (h : jw_H) (x0 : Option Nat) (x5 : Int64) (x7 : Int32) : Option (Int32 × jw_H) :=
 g_L_oneByOne_b188 k106 h x0 x5 x7 (0 : Int32)

noncomputable def g_L_oneByOne_b148 (k106 : jw_H → Option Nat → Int32 → Int64 → Int32 → Option (Int32 × jw_H)) (h : jw_H) (x0 : Option Nat) (x5 : Int64) (x7 : Int32) : Option (Int32 × jw_H) :=
 (jw_rc h 11 x0).bind fun a1 =>
 jw_b2 (f_X11_type h a1 ((48 : Int32) + (x7 - x7 / (10 : Int32) * (10 : Int32)))) fun ww3 h2 =>
 jw_iw ww3 fun w3 =>
 if w3 ≤ 0 then (g_L_oneByOne_b187 k106 h2 x0 x5 x7)
 else (jw_b2 (f_L_typed h2 x0 (3443170682464671731 : Int64) (9 : Int32)) fun w6 h5 =>
 if w6 = 0 then (g_L_oneByOne_b187 k106 h5 x0 x5 x7)
 else ((jw_rc h5 11 x0).bind fun a8 =>
 jw_b2 (f_X11_run h5 a8) fun ww10 h9 =>
 jw_iw ww10 fun w10 =>
 if w10 = (1 : Int32) then (g_L_oneByOne_b188 k106 h9 x0 x5 x7 (1 : Int32))
 else (g_L_oneByOne_b187 k106 h9 x0 x5 x7)))

noncomputable def g_L_oneByOne_b214 (h : jw_H) (t0 : Int32) : Option (Int32 × jw_H) :=
 (jw_rb t0).bind fun v1 =>
 some (t0, h)

noncomputable def g_L_oneByOne_b213 (h : jw_H)  : Option (Int32 × jw_H) :=
 g_L_oneByOne_b214  h (0 : Int32)

noncomputable def g_L_oneByOne_b195 (h : jw_H) (x0 : Option Nat) (x3 : Int32) (x5 : Int64) : Option (Int32 × jw_H) :=
 if x3 = 0 then (g_L_oneByOne_b213  h )
 else (jw_b2 (f_L_rows h x0) fun w3 h2 =>
 if (lg_cmp w3 x5) = 0 then (g_L_oneByOne_b214  h2 (1 : Int32))
 else (g_L_oneByOne_b213  h2 ))

noncomputable def g_L_oneByOne_b106 (k106 : jw_H → Option Nat → Int32 → Int64 → Int32 → Option (Int32 × jw_H)) (h : jw_H) (x0 : Option Nat) (x3 : Int32) (x5 : Int64) (x7 : Int32) : Option (Int32 × jw_H) :=
 (jw_rc h 11 x0).bind fun a1 =>
 jw_b2 (f_X11_lines h a1) fun w3 h2 =>
 if w3 < x7 then (g_L_oneByOne_b195  h2 x0 x3 x5)
 else (if x3 = 0 then (g_L_oneByOne_b195  h2 x0 x3 x5)
 else ((jw_rc h2 11 x0).bind fun a6 =>
 jw_b2 (f_X11_wipe h2 a6) fun w8 h7 =>
 if w8 < 0 then (g_L_oneByOne_b187 k106 h7 x0 x5 x7)
 else (if x7 < (10 : Int32) then (g_L_oneByOne_b148 k106 h7 x0 x5 x7)
 else ((jw_rc h7 11 x0).bind fun a11 =>
 jw_b2 (f_X11_type h7 a11 ((48 : Int32) + (x7 / (10 : Int32)))) fun ww13 h12 =>
 jw_iw ww13 fun w13 =>
 if w13 ≤ 0 then (g_L_oneByOne_b187 k106 h12 x0 x5 x7)
 else (g_L_oneByOne_b148 k106 h12 x0 x5 x7)))))

noncomputable def f_L_oneByOne_b106 (n : Nat) : jw_H → Option Nat → Int32 → Int64 → Int32 → Option (Int32 × jw_H) :=
 Nat.rec (fun _ _ _ _ _ => none) (fun _ k106 => g_L_oneByOne_b106 k106) n

noncomputable def g_L_oneByOne_b102 (h : jw_H) (x0 : Option Nat) (x5 : Int64) (t0 : Int32) : Option (Int32 × jw_H) :=
 f_L_oneByOne_b106  jw_FU h x0 t0 x5 (1 : Int32)

noncomputable def g_L_oneByOne_b101 (h : jw_H) (x0 : Option Nat) (x5 : Int64) : Option (Int32 × jw_H) :=
 g_L_oneByOne_b102  h x0 x5 (0 : Int32)

noncomputable def g_L_oneByOne_b40 (h : jw_H) (x0 : Option Nat) (x1 : Int64) (t0 : Int32) : Option (Int32 × jw_H) :=
 (jw_rc h 11 x0).bind fun a1 =>
 jw_b2 (f_X11_run h a1) fun ww3 h2 =>
 jw_iw ww3 fun w3 =>
 jw_b2 (f_L_rows h2 x0) fun w5 h4 =>
 if t0 = 0 then (g_L_oneByOne_b62  h4 x0 x1 t0)
 else (if w3 = 0 then (g_L_oneByOne_b62  h4 x0 x1 t0)
 else ((jw_rc h4 11 x0).bind fun a8 =>
 jw_b2 (f_X11_undo h4 a8) fun ww10 h9 =>
 jw_iw ww10 fun w10 =>
 if w10 < 0 then (g_L_oneByOne_b101  h9 x0 w5)
 else (jw_b2 (f_L_rows h9 x0) fun w13 h12 =>
 if (lg_cmp w13 x1) = 0 then (g_L_oneByOne_b102  h12 x0 w5 (1 : Int32))
 else (g_L_oneByOne_b101  h12 x0 w5))))

noncomputable def g_L_oneByOne_b39 (h : jw_H) (x0 : Option Nat) (x1 : Int64) : Option (Int32 × jw_H) :=
 g_L_oneByOne_b40  h x0 x1 (0 : Int32)

noncomputable def f_L_oneByOne (h : jw_H) (x0 : Option Nat) : Option (Int32 × jw_H) :=
 jw_b2 (f_L_rows h x0) fun w2 h1 =>
 (jw_rc h1 11 x0).bind fun a3 =>
 jw_b2 (f_X11_wipe h1 a3) fun w5 h4 =>
 if w5 < 0 then (g_L_oneByOne_b39  h4 x0 w2)
 else (jw_b2 (f_L_typed h4 x0 (7227361623303518629 : Int64) (9 : Int32)) fun w8 h7 =>
 if w8 = 0 then (g_L_oneByOne_b39  h7 x0 w2)
 else (jw_b2 (f_L_typed h7 x0 (47 : Int64) (1 : Int32)) fun w11 h10 =>
 if w11 = 0 then (g_L_oneByOne_b39  h10 x0 w2)
 else (g_L_oneByOne_b40  h10 x0 w2 (1 : Int32))))

set_option maxRecDepth 100000 in
set_option maxHeartbeats 4000000 in
theorem l_L_oneByOne_b80 {hi : jw_H} {h : jw_H} {t0 : Int32} {r : Int32} {h' : jw_H} (hq : g_L_oneByOne_b80  h t0 = some (r, h')) : jw_E 14 uL_oneByOne hi 80 [none, none, none, none, none, none, none, none] [.int t0] h (.inl (some (.int r))) h' := by
  unfold g_L_oneByOne_b80 at hq
  obtain ⟨v1, ev1, hq⟩ := Option.bind_eq_some_iff.mp hq
  cases hq
  exact jw_iret (ty := .boolean) dL_oneByOne_80 rfl (jw_rb_spec ev1)

set_option maxRecDepth 100000 in
set_option maxHeartbeats 4000000 in
theorem l_L_oneByOne_b79 {hi : jw_H} {h : jw_H}  {r : Int32} {h' : jw_H} (hq : g_L_oneByOne_b79  h  = some (r, h')) : jw_E 14 uL_oneByOne hi 79 [none, none, none, none, none, none, none, none] [] h (.inl (some (.int r))) h' := by
  unfold g_L_oneByOne_b79 at hq
  refine jw_iconst dL_oneByOne_79 (v := (0 : Int32)) (by decide) ?_
  exact l_L_oneByOne_b80  hq

set_option maxRecDepth 100000 in
set_option maxHeartbeats 4000000 in
theorem l_L_oneByOne_b62 {hi : jw_H} {h : jw_H} {x0 : Option Nat} {x1 : Int64} {x3 : Int32} {r : Int32} {h' : jw_H} (hq : g_L_oneByOne_b62  h x0 x1 x3 = some (r, h')) : jw_E 14 uL_oneByOne hi 62 [some (va_rf x0), some (.long x1), none, some (.int x3), none, none, none, none] [] h (.inl (some (.int r))) h' := by
  unfold g_L_oneByOne_b62 at hq
  refine jw_iload_n dL_oneByOne_62 rfl ?_
  rcases jw_if hq with ⟨c1, hq⟩ | ⟨c1, hq⟩
  · refine jw_if_eq_t (tgt := 79) dL_oneByOne_63 (by decide) c1 ?_
    refine jw_forget [false, false, true, false, true, true, true, true] (L' := [none, none, none, none, none, none, none, none]) rfl ?_
    exact l_L_oneByOne_b79  hq
  · refine jw_if_eq_f (tgt := 79) dL_oneByOne_63 (by decide) c1 ?_
    refine jw_aload_n dL_oneByOne_66 (o := x0) rfl ?_
    obtain ⟨w3, h2, ew3, hq⟩ := jw_b2_spec hq
    refine jw_callS (As := [va_rf x0]) (S := []) (v := some (.long w3)) dL_oneByOne_67 mt_L_rows st_L_rows lk_L_83 (c_L_rows ew3) rfl (by decide) (Nat.le_of_ble_eq_true rfl) rfl ?_
    refine jw_lload_n dL_oneByOne_70 rfl ?_
    refine jw_lcmp dL_oneByOne_71 ?_
    rcases jw_if hq with ⟨c4, hq⟩ | ⟨c4, hq⟩
    · refine jw_if_ne_f (tgt := 79) dL_oneByOne_72 (by decide) c4 ?_
      refine jw_iconst dL_oneByOne_75 (v := (1 : Int32)) (by decide) ?_
      refine jw_goto (tgt := 80) dL_oneByOne_76 (by decide) ?_
      refine jw_forget [false, false, true, false, true, true, true, true] (L' := [none, none, none, none, none, none, none, none]) rfl ?_
      exact l_L_oneByOne_b80  hq
    · refine jw_if_ne_t (tgt := 79) dL_oneByOne_72 (by decide) c4 ?_
      refine jw_forget [false, false, true, false, true, true, true, true] (L' := [none, none, none, none, none, none, none, none]) rfl ?_
      exact l_L_oneByOne_b79  hq

set_option maxRecDepth 100000 in
set_option maxHeartbeats 4000000 in
theorem l_L_oneByOne_b188 {hi : jw_H} {k106 : jw_H → Option Nat → Int32 → Int64 → Int32 → Option (Int32 × jw_H)} (hk106 : ∀ (h : jw_H) (x0 : Option Nat) (x3 : Int32) (x5 : Int64) (x7 : Int32) (r : Int32) (h' : jw_H), k106 h x0 x3 x5 x7 = some (r, h') → jw_E 14 uL_oneByOne hi 106 [some (va_rf x0), none, none, some (.int x3), none, some (.long x5), none, some (.int x7)] [] h (.inl (some (.int r))) h') {h : jw_H} {x0 : Option Nat} {x5 : Int64} {x7 : Int32} {t0 : Int32} {r : Int32} {h' : jw_H} (hq : g_L_oneByOne_b188 k106 h x0 x5 x7 t0 = some (r, h')) : jw_E 14 uL_oneByOne hi 188 [some (va_rf x0), none, none, none, none, some (.long x5), none, some (.int x7)] [.int t0] h (.inl (some (.int r))) h' := by
  unfold g_L_oneByOne_b188 at hq
  refine jw_istore_n (L' := [some (va_rf x0), none, none, some (.int t0), none, some (.long x5), none, some (.int x7)]) dL_oneByOne_188 (Nat.le_of_ble_eq_true rfl) rfl ?_
  refine jw_iinc (L' := [some (va_rf x0), none, none, some (.int t0), none, some (.long x5), none, some (.int (x7 + (1 : Int32)))]) dL_oneByOne_189 rfl (v := (1 : Int32)) (by decide) (Nat.le_of_ble_eq_true rfl) rfl ?_
  refine jw_goto (tgt := 106) dL_oneByOne_192 (by decide) ?_
  exact hk106 _ _ _ _ _ _ _ hq

set_option maxRecDepth 100000 in
set_option maxHeartbeats 4000000 in
theorem l_L_oneByOne_b187 {hi : jw_H} {k106 : jw_H → Option Nat → Int32 → Int64 → Int32 → Option (Int32 × jw_H)} (hk106 : ∀ (h : jw_H) (x0 : Option Nat) (x3 : Int32) (x5 : Int64) (x7 : Int32) (r : Int32) (h' : jw_H), k106 h x0 x3 x5 x7 = some (r, h') → jw_E 14 uL_oneByOne hi 106 [some (va_rf x0), none, none, some (.int x3), none, some (.long x5), none, some (.int x7)] [] h (.inl (some (.int r))) h') {h : jw_H} {x0 : Option Nat} {x5 : Int64} {x7 : Int32} {r : Int32} {h' : jw_H} (hq : g_L_oneByOne_b187 k106 h x0 x5 x7 = some (r, h')) : jw_E 14 uL_oneByOne hi 187 [some (va_rf x0), none, none, none, none, some (.long x5), none, some (.int x7)] [] h (.inl (some (.int r))) h' := by
  unfold g_L_oneByOne_b187 at hq
  refine jw_iconst dL_oneByOne_187 (v := (0 : Int32)) (by decide) ?_
  exact l_L_oneByOne_b188 hk106 hq

set_option maxRecDepth 100000 in
set_option maxHeartbeats 4000000 in
theorem l_L_oneByOne_b148 {hi : jw_H} {k106 : jw_H → Option Nat → Int32 → Int64 → Int32 → Option (Int32 × jw_H)} (hk106 : ∀ (h : jw_H) (x0 : Option Nat) (x3 : Int32) (x5 : Int64) (x7 : Int32) (r : Int32) (h' : jw_H), k106 h x0 x3 x5 x7 = some (r, h') → jw_E 14 uL_oneByOne hi 106 [some (va_rf x0), none, none, some (.int x3), none, some (.long x5), none, some (.int x7)] [] h (.inl (some (.int r))) h') {h : jw_H} {x0 : Option Nat} {x5 : Int64} {x7 : Int32} {r : Int32} {h' : jw_H} (hq : g_L_oneByOne_b148 k106 h x0 x5 x7 = some (r, h')) : jw_E 14 uL_oneByOne hi 148 [some (va_rf x0), none, none, none, none, some (.long x5), none, some (.int x7)] [] h (.inl (some (.int r))) h' := by
  unfold g_L_oneByOne_b148 at hq
  refine jw_aload_n dL_oneByOne_148 (o := x0) rfl ?_
  refine jw_bipush dL_oneByOne_149 (v := (48 : Int32)) (by decide) ?_
  refine jw_iload dL_oneByOne_151 rfl ?_
  refine jw_bipush dL_oneByOne_153 (v := (10 : Int32)) (by decide) ?_
  refine jw_irem dL_oneByOne_155 (by decide) ?_
  refine jw_iadd dL_oneByOne_156 ?_
  obtain ⟨a1, ea1, hq⟩ := Option.bind_eq_some_iff.mp hq
  obtain ⟨eoa1, eta1⟩ := jw_rc_spec ea1
  obtain ⟨ww3, h2, ew3, hq⟩ := jw_b2_spec hq
  rcases ww3 with w3 | Ew3
  · replace hq := jw_iw_l hq
    refine jw_callV (As := [.int ((48 : Int32) + (x7 - x7 / (10 : Int32) * (10 : Int32)))]) (S := []) (a := a1) (v := some (.int w3)) dL_oneByOne_157 mt_X11_type in_X11_type se_X11_type lk_L_11 (c_X11_type ew3) eta1 (by decide) rfl rfl (by decide) (Nat.le_of_ble_eq_true rfl) (by cases eoa1; rfl) ?_
    rcases jw_if hq with ⟨c4, hq⟩ | ⟨c4, hq⟩
    · refine jw_if_le_t (tgt := 187) dL_oneByOne_160 (by decide) c4 ?_
      exact l_L_oneByOne_b187 hk106 hq
    · refine jw_if_le_f (tgt := 187) dL_oneByOne_160 (by decide) c4 ?_
      refine jw_aload_n dL_oneByOne_163 (o := x0) rfl ?_
      refine jw_ldc2 dL_oneByOne_164 cw_L_150 ?_
      refine jw_bipush dL_oneByOne_167 (v := (9 : Int32)) (by decide) ?_
      obtain ⟨w6, h5, ew6, hq⟩ := jw_b2_spec hq
      refine jw_callS (As := [va_rf x0, .long (3443170682464671731 : Int64), .int (9 : Int32)]) (S := []) (v := some (.int w6)) dL_oneByOne_169 mt_L_typed st_L_typed lk_L_23 (c_L_typed ew6) rfl (by decide) (Nat.le_of_ble_eq_true rfl) rfl ?_
      rcases jw_if hq with ⟨c7, hq⟩ | ⟨c7, hq⟩
      · refine jw_if_eq_t (tgt := 187) dL_oneByOne_172 (by decide) c7 ?_
        exact l_L_oneByOne_b187 hk106 hq
      · refine jw_if_eq_f (tgt := 187) dL_oneByOne_172 (by decide) c7 ?_
        refine jw_aload_n dL_oneByOne_175 (o := x0) rfl ?_
        obtain ⟨a8, ea8, hq⟩ := Option.bind_eq_some_iff.mp hq
        obtain ⟨eoa8, eta8⟩ := jw_rc_spec ea8
        obtain ⟨ww10, h9, ew10, hq⟩ := jw_b2_spec hq
        rcases ww10 with w10 | Ew10
        · replace hq := jw_iw_l hq
          refine jw_callV (As := []) (S := []) (a := a8) (v := some (.int w10)) dL_oneByOne_176 mt_X11_run in_X11_run se_X11_run lk_L_115 (c_X11_run ew10) eta8 (by decide) rfl rfl (by decide) (Nat.le_of_ble_eq_true rfl) (by cases eoa8; rfl) ?_
          refine jw_iconst dL_oneByOne_179 (v := (1 : Int32)) (by decide) ?_
          rcases jw_if hq with ⟨c11, hq⟩ | ⟨c11, hq⟩
          · refine jw_icmp_ne_f (tgt := 187) dL_oneByOne_180 (by decide) c11 ?_
            refine jw_iconst dL_oneByOne_183 (v := (1 : Int32)) (by decide) ?_
            refine jw_goto (tgt := 188) dL_oneByOne_184 (by decide) ?_
            exact l_L_oneByOne_b188 hk106 hq
          · refine jw_icmp_ne_t (tgt := 187) dL_oneByOne_180 (by decide) c11 ?_
            exact l_L_oneByOne_b187 hk106 hq
        · exact nomatch hq
  · exact nomatch hq

set_option maxRecDepth 100000 in
set_option maxHeartbeats 4000000 in
theorem l_L_oneByOne_b214 {hi : jw_H} {h : jw_H} {t0 : Int32} {r : Int32} {h' : jw_H} (hq : g_L_oneByOne_b214  h t0 = some (r, h')) : jw_E 14 uL_oneByOne hi 214 [none, none, none, none, none, none, none, none] [.int t0] h (.inl (some (.int r))) h' := by
  unfold g_L_oneByOne_b214 at hq
  obtain ⟨v1, ev1, hq⟩ := Option.bind_eq_some_iff.mp hq
  cases hq
  exact jw_iret (ty := .boolean) dL_oneByOne_214 rfl (jw_rb_spec ev1)

set_option maxRecDepth 100000 in
set_option maxHeartbeats 4000000 in
theorem l_L_oneByOne_b213 {hi : jw_H} {h : jw_H}  {r : Int32} {h' : jw_H} (hq : g_L_oneByOne_b213  h  = some (r, h')) : jw_E 14 uL_oneByOne hi 213 [none, none, none, none, none, none, none, none] [] h (.inl (some (.int r))) h' := by
  unfold g_L_oneByOne_b213 at hq
  refine jw_iconst dL_oneByOne_213 (v := (0 : Int32)) (by decide) ?_
  exact l_L_oneByOne_b214  hq

set_option maxRecDepth 100000 in
set_option maxHeartbeats 4000000 in
theorem l_L_oneByOne_b195 {hi : jw_H} {h : jw_H} {x0 : Option Nat} {x3 : Int32} {x5 : Int64} {r : Int32} {h' : jw_H} (hq : g_L_oneByOne_b195  h x0 x3 x5 = some (r, h')) : jw_E 14 uL_oneByOne hi 195 [some (va_rf x0), none, none, some (.int x3), none, some (.long x5), none, none] [] h (.inl (some (.int r))) h' := by
  unfold g_L_oneByOne_b195 at hq
  refine jw_iload_n dL_oneByOne_195 rfl ?_
  rcases jw_if hq with ⟨c1, hq⟩ | ⟨c1, hq⟩
  · refine jw_if_eq_t (tgt := 213) dL_oneByOne_196 (by decide) c1 ?_
    refine jw_forget [false, true, true, false, true, false, true, true] (L' := [none, none, none, none, none, none, none, none]) rfl ?_
    exact l_L_oneByOne_b213  hq
  · refine jw_if_eq_f (tgt := 213) dL_oneByOne_196 (by decide) c1 ?_
    refine jw_aload_n dL_oneByOne_199 (o := x0) rfl ?_
    obtain ⟨w3, h2, ew3, hq⟩ := jw_b2_spec hq
    refine jw_callS (As := [va_rf x0]) (S := []) (v := some (.long w3)) dL_oneByOne_200 mt_L_rows st_L_rows lk_L_83 (c_L_rows ew3) rfl (by decide) (Nat.le_of_ble_eq_true rfl) rfl ?_
    refine jw_lload dL_oneByOne_203 rfl ?_
    refine jw_lcmp dL_oneByOne_205 ?_
    rcases jw_if hq with ⟨c4, hq⟩ | ⟨c4, hq⟩
    · refine jw_if_ne_f (tgt := 213) dL_oneByOne_206 (by decide) c4 ?_
      refine jw_iconst dL_oneByOne_209 (v := (1 : Int32)) (by decide) ?_
      refine jw_goto (tgt := 214) dL_oneByOne_210 (by decide) ?_
      refine jw_forget [false, true, true, false, true, false, true, true] (L' := [none, none, none, none, none, none, none, none]) rfl ?_
      exact l_L_oneByOne_b214  hq
    · refine jw_if_ne_t (tgt := 213) dL_oneByOne_206 (by decide) c4 ?_
      refine jw_forget [false, true, true, false, true, false, true, true] (L' := [none, none, none, none, none, none, none, none]) rfl ?_
      exact l_L_oneByOne_b213  hq

set_option maxRecDepth 100000 in
set_option maxHeartbeats 4000000 in
theorem l_L_oneByOne_b106g {hi : jw_H} {k106 : jw_H → Option Nat → Int32 → Int64 → Int32 → Option (Int32 × jw_H)} (hk106 : ∀ (h : jw_H) (x0 : Option Nat) (x3 : Int32) (x5 : Int64) (x7 : Int32) (r : Int32) (h' : jw_H), k106 h x0 x3 x5 x7 = some (r, h') → jw_E 14 uL_oneByOne hi 106 [some (va_rf x0), none, none, some (.int x3), none, some (.long x5), none, some (.int x7)] [] h (.inl (some (.int r))) h') {h : jw_H} {x0 : Option Nat} {x3 : Int32} {x5 : Int64} {x7 : Int32} {r : Int32} {h' : jw_H} (hq : g_L_oneByOne_b106 k106 h x0 x3 x5 x7 = some (r, h')) : jw_E 14 uL_oneByOne hi 106 [some (va_rf x0), none, none, some (.int x3), none, some (.long x5), none, some (.int x7)] [] h (.inl (some (.int r))) h' := by
  unfold g_L_oneByOne_b106 at hq
  refine jw_iload dL_oneByOne_106 rfl ?_
  refine jw_aload_n dL_oneByOne_108 (o := x0) rfl ?_
  obtain ⟨a1, ea1, hq⟩ := Option.bind_eq_some_iff.mp hq
  obtain ⟨eoa1, eta1⟩ := jw_rc_spec ea1
  obtain ⟨w3, h2, ew3, hq⟩ := jw_b2_spec hq
  refine jw_callV (As := []) (S := [.int x7]) (a := a1) (v := some (.int w3)) dL_oneByOne_109 mt_X11_lines in_X11_lines se_X11_lines lk_L_71 (c_X11_lines ew3) eta1 (by decide) rfl rfl (by decide) (Nat.le_of_ble_eq_true rfl) (by cases eoa1; rfl) ?_
  rcases jw_if hq with ⟨c4, hq⟩ | ⟨c4, hq⟩
  · refine jw_icmp_gt_t (tgt := 195) dL_oneByOne_112 (by decide) c4 ?_
    refine jw_forget [true, true, true, true, true, true, true, false] (L' := [some (va_rf x0), none, none, some (.int x3), none, some (.long x5), none, none]) rfl ?_
    exact l_L_oneByOne_b195  hq
  · refine jw_icmp_gt_f (tgt := 195) dL_oneByOne_112 (by decide) c4 ?_
    refine jw_iload_n dL_oneByOne_115 rfl ?_
    rcases jw_if hq with ⟨c5, hq⟩ | ⟨c5, hq⟩
    · refine jw_if_eq_t (tgt := 195) dL_oneByOne_116 (by decide) c5 ?_
      refine jw_forget [true, true, true, true, true, true, true, false] (L' := [some (va_rf x0), none, none, some (.int x3), none, some (.long x5), none, none]) rfl ?_
      exact l_L_oneByOne_b195  hq
    · refine jw_if_eq_f (tgt := 195) dL_oneByOne_116 (by decide) c5 ?_
      refine jw_aload_n dL_oneByOne_119 (o := x0) rfl ?_
      obtain ⟨a6, ea6, hq⟩ := Option.bind_eq_some_iff.mp hq
      obtain ⟨eoa6, eta6⟩ := jw_rc_spec ea6
      obtain ⟨w8, h7, ew8, hq⟩ := jw_b2_spec hq
      refine jw_callV (As := []) (S := []) (a := a6) (v := some (.int w8)) dL_oneByOne_120 mt_X11_wipe in_X11_wipe se_X11_wipe lk_L_17 (c_X11_wipe ew8) eta6 (by decide) rfl rfl (by decide) (Nat.le_of_ble_eq_true rfl) (by cases eoa6; rfl) ?_
      rcases jw_if hq with ⟨c9, hq⟩ | ⟨c9, hq⟩
      · refine jw_if_lt_t (tgt := 187) dL_oneByOne_123 (by decide) c9 ?_
        refine jw_forget [true, true, true, false, true, true, true, true] (L' := [some (va_rf x0), none, none, none, none, some (.long x5), none, some (.int x7)]) rfl ?_
        exact l_L_oneByOne_b187 hk106 hq
      · refine jw_if_lt_f (tgt := 187) dL_oneByOne_123 (by decide) c9 ?_
        refine jw_iload dL_oneByOne_126 rfl ?_
        refine jw_bipush dL_oneByOne_128 (v := (10 : Int32)) (by decide) ?_
        rcases jw_if hq with ⟨c10, hq⟩ | ⟨c10, hq⟩
        · refine jw_icmp_lt_t (tgt := 148) dL_oneByOne_130 (by decide) c10 ?_
          refine jw_forget [true, true, true, false, true, true, true, true] (L' := [some (va_rf x0), none, none, none, none, some (.long x5), none, some (.int x7)]) rfl ?_
          exact l_L_oneByOne_b148 hk106 hq
        · refine jw_icmp_lt_f (tgt := 148) dL_oneByOne_130 (by decide) c10 ?_
          refine jw_aload_n dL_oneByOne_133 (o := x0) rfl ?_
          refine jw_bipush dL_oneByOne_134 (v := (48 : Int32)) (by decide) ?_
          refine jw_iload dL_oneByOne_136 rfl ?_
          refine jw_bipush dL_oneByOne_138 (v := (10 : Int32)) (by decide) ?_
          refine jw_idiv dL_oneByOne_140 (by decide) ?_
          refine jw_iadd dL_oneByOne_141 ?_
          obtain ⟨a11, ea11, hq⟩ := Option.bind_eq_some_iff.mp hq
          obtain ⟨eoa11, eta11⟩ := jw_rc_spec ea11
          obtain ⟨ww13, h12, ew13, hq⟩ := jw_b2_spec hq
          rcases ww13 with w13 | Ew13
          · replace hq := jw_iw_l hq
            refine jw_callV (As := [.int ((48 : Int32) + (x7 / (10 : Int32)))]) (S := []) (a := a11) (v := some (.int w13)) dL_oneByOne_142 mt_X11_type in_X11_type se_X11_type lk_L_11 (c_X11_type ew13) eta11 (by decide) rfl rfl (by decide) (Nat.le_of_ble_eq_true rfl) (by cases eoa11; rfl) ?_
            rcases jw_if hq with ⟨c14, hq⟩ | ⟨c14, hq⟩
            · refine jw_if_le_t (tgt := 187) dL_oneByOne_145 (by decide) c14 ?_
              refine jw_forget [true, true, true, false, true, true, true, true] (L' := [some (va_rf x0), none, none, none, none, some (.long x5), none, some (.int x7)]) rfl ?_
              exact l_L_oneByOne_b187 hk106 hq
            · refine jw_if_le_f (tgt := 187) dL_oneByOne_145 (by decide) c14 ?_
              refine jw_forget [true, true, true, false, true, true, true, true] (L' := [some (va_rf x0), none, none, none, none, some (.long x5), none, some (.int x7)]) rfl ?_
              exact l_L_oneByOne_b148 hk106 hq
          · exact nomatch hq

theorem l_L_oneByOne_b106 {hi : jw_H} : ∀ (n : Nat) (h : jw_H) (x0 : Option Nat) (x3 : Int32) (x5 : Int64) (x7 : Int32) (r : Int32) (h' : jw_H), f_L_oneByOne_b106  n h x0 x3 x5 x7 = some (r, h') → jw_E 14 uL_oneByOne hi 106 [some (va_rf x0), none, none, some (.int x3), none, some (.long x5), none, some (.int x7)] [] h (.inl (some (.int r))) h' := by
  intro n
  induction n with
  | zero => intro h x0 x3 x5 x7 r h' hq; exact nomatch hq
  | succ n ih => intro h x0 x3 x5 x7 r h' hq; exact l_L_oneByOne_b106g ih hq

set_option maxRecDepth 100000 in
set_option maxHeartbeats 4000000 in
theorem l_L_oneByOne_b102 {hi : jw_H} {h : jw_H} {x0 : Option Nat} {x5 : Int64} {t0 : Int32} {r : Int32} {h' : jw_H} (hq : g_L_oneByOne_b102  h x0 x5 t0 = some (r, h')) : jw_E 14 uL_oneByOne hi 102 [some (va_rf x0), none, none, none, none, some (.long x5), none, none] [.int t0] h (.inl (some (.int r))) h' := by
  unfold g_L_oneByOne_b102 at hq
  refine jw_istore_n (L' := [some (va_rf x0), none, none, some (.int t0), none, some (.long x5), none, none]) dL_oneByOne_102 (Nat.le_of_ble_eq_true rfl) rfl ?_
  refine jw_iconst dL_oneByOne_103 (v := (1 : Int32)) (by decide) ?_
  refine jw_istore (L' := [some (va_rf x0), none, none, some (.int t0), none, some (.long x5), none, some (.int (1 : Int32))]) dL_oneByOne_104 (Nat.le_of_ble_eq_true rfl) rfl ?_
  exact l_L_oneByOne_b106  jw_FU _ _ _ _ _ _ _ hq

set_option maxRecDepth 100000 in
set_option maxHeartbeats 4000000 in
theorem l_L_oneByOne_b101 {hi : jw_H} {h : jw_H} {x0 : Option Nat} {x5 : Int64} {r : Int32} {h' : jw_H} (hq : g_L_oneByOne_b101  h x0 x5 = some (r, h')) : jw_E 14 uL_oneByOne hi 101 [some (va_rf x0), none, none, none, none, some (.long x5), none, none] [] h (.inl (some (.int r))) h' := by
  unfold g_L_oneByOne_b101 at hq
  refine jw_iconst dL_oneByOne_101 (v := (0 : Int32)) (by decide) ?_
  exact l_L_oneByOne_b102  hq

set_option maxRecDepth 100000 in
set_option maxHeartbeats 4000000 in
theorem l_L_oneByOne_b40 {hi : jw_H} {h : jw_H} {x0 : Option Nat} {x1 : Int64} {t0 : Int32} {r : Int32} {h' : jw_H} (hq : g_L_oneByOne_b40  h x0 x1 t0 = some (r, h')) : jw_E 14 uL_oneByOne hi 40 [some (va_rf x0), some (.long x1), none, none, none, none, none, none] [.int t0] h (.inl (some (.int r))) h' := by
  unfold g_L_oneByOne_b40 at hq
  refine jw_istore_n (L' := [some (va_rf x0), some (.long x1), none, some (.int t0), none, none, none, none]) dL_oneByOne_40 (Nat.le_of_ble_eq_true rfl) rfl ?_
  refine jw_aload_n dL_oneByOne_41 (o := x0) rfl ?_
  obtain ⟨a1, ea1, hq⟩ := Option.bind_eq_some_iff.mp hq
  obtain ⟨eoa1, eta1⟩ := jw_rc_spec ea1
  obtain ⟨ww3, h2, ew3, hq⟩ := jw_b2_spec hq
  rcases ww3 with w3 | Ew3
  · replace hq := jw_iw_l hq
    refine jw_callV (As := []) (S := []) (a := a1) (v := some (.int w3)) dL_oneByOne_42 mt_X11_run in_X11_run se_X11_run lk_L_115 (c_X11_run ew3) eta1 (by decide) rfl rfl (by decide) (Nat.le_of_ble_eq_true rfl) (by cases eoa1; rfl) ?_
    refine jw_istore (L' := [some (va_rf x0), some (.long x1), none, some (.int t0), some (.int w3), none, none, none]) dL_oneByOne_45 (Nat.le_of_ble_eq_true rfl) rfl ?_
    refine jw_aload_n dL_oneByOne_47 (o := x0) rfl ?_
    obtain ⟨w5, h4, ew5, hq⟩ := jw_b2_spec hq
    refine jw_callS (As := [va_rf x0]) (S := []) (v := some (.long w5)) dL_oneByOne_48 mt_L_rows st_L_rows lk_L_83 (c_L_rows ew5) rfl (by decide) (Nat.le_of_ble_eq_true rfl) rfl ?_
    refine jw_lstore (L' := [some (va_rf x0), some (.long x1), none, some (.int t0), some (.int w3), some (.long w5), none, none]) dL_oneByOne_51 (Nat.le_of_ble_eq_true rfl) rfl ?_
    refine jw_iload_n dL_oneByOne_53 rfl ?_
    rcases jw_if hq with ⟨c6, hq⟩ | ⟨c6, hq⟩
    · refine jw_if_eq_t (tgt := 62) dL_oneByOne_54 (by decide) c6 ?_
      refine jw_forget [true, true, true, true, false, false, true, true] (L' := [some (va_rf x0), some (.long x1), none, some (.int t0), none, none, none, none]) rfl ?_
      exact l_L_oneByOne_b62  hq
    · refine jw_if_eq_f (tgt := 62) dL_oneByOne_54 (by decide) c6 ?_
      refine jw_iload dL_oneByOne_57 rfl ?_
      rcases jw_if hq with ⟨c7, hq⟩ | ⟨c7, hq⟩
      · refine jw_if_ne_f (tgt := 81) dL_oneByOne_59 (by decide) c7 ?_
        refine jw_forget [true, true, true, true, false, false, true, true] (L' := [some (va_rf x0), some (.long x1), none, some (.int t0), none, none, none, none]) rfl ?_
        exact l_L_oneByOne_b62  hq
      · refine jw_if_ne_t (tgt := 81) dL_oneByOne_59 (by decide) c7 ?_
        refine jw_aload_n dL_oneByOne_81 (o := x0) rfl ?_
        obtain ⟨a8, ea8, hq⟩ := Option.bind_eq_some_iff.mp hq
        obtain ⟨eoa8, eta8⟩ := jw_rc_spec ea8
        obtain ⟨ww10, h9, ew10, hq⟩ := jw_b2_spec hq
        rcases ww10 with w10 | Ew10
        · replace hq := jw_iw_l hq
          refine jw_callV (As := []) (S := []) (a := a8) (v := some (.int w10)) dL_oneByOne_82 mt_X11_undo in_X11_undo se_X11_undo lk_L_143 (c_X11_undo ew10) eta8 (by decide) rfl rfl (by decide) (Nat.le_of_ble_eq_true rfl) (by cases eoa8; rfl) ?_
          rcases jw_if hq with ⟨c11, hq⟩ | ⟨c11, hq⟩
          · refine jw_if_lt_t (tgt := 101) dL_oneByOne_85 (by decide) c11 ?_
            refine jw_forget [true, false, true, false, false, true, true, true] (L' := [some (va_rf x0), none, none, none, none, some (.long w5), none, none]) rfl ?_
            exact l_L_oneByOne_b101  hq
          · refine jw_if_lt_f (tgt := 101) dL_oneByOne_85 (by decide) c11 ?_
            refine jw_aload_n dL_oneByOne_88 (o := x0) rfl ?_
            obtain ⟨w13, h12, ew13, hq⟩ := jw_b2_spec hq
            refine jw_callS (As := [va_rf x0]) (S := []) (v := some (.long w13)) dL_oneByOne_89 mt_L_rows st_L_rows lk_L_83 (c_L_rows ew13) rfl (by decide) (Nat.le_of_ble_eq_true rfl) rfl ?_
            refine jw_lload_n dL_oneByOne_92 rfl ?_
            refine jw_lcmp dL_oneByOne_93 ?_
            rcases jw_if hq with ⟨c14, hq⟩ | ⟨c14, hq⟩
            · refine jw_if_ne_f (tgt := 101) dL_oneByOne_94 (by decide) c14 ?_
              refine jw_iconst dL_oneByOne_97 (v := (1 : Int32)) (by decide) ?_
              refine jw_goto (tgt := 102) dL_oneByOne_98 (by decide) ?_
              refine jw_forget [true, false, true, false, false, true, true, true] (L' := [some (va_rf x0), none, none, none, none, some (.long w5), none, none]) rfl ?_
              exact l_L_oneByOne_b102  hq
            · refine jw_if_ne_t (tgt := 101) dL_oneByOne_94 (by decide) c14 ?_
              refine jw_forget [true, false, true, false, false, true, true, true] (L' := [some (va_rf x0), none, none, none, none, some (.long w5), none, none]) rfl ?_
              exact l_L_oneByOne_b101  hq
        · exact nomatch hq
  · exact nomatch hq

set_option maxRecDepth 100000 in
set_option maxHeartbeats 4000000 in
theorem l_L_oneByOne_b39 {hi : jw_H} {h : jw_H} {x0 : Option Nat} {x1 : Int64} {r : Int32} {h' : jw_H} (hq : g_L_oneByOne_b39  h x0 x1 = some (r, h')) : jw_E 14 uL_oneByOne hi 39 [some (va_rf x0), some (.long x1), none, none, none, none, none, none] [] h (.inl (some (.int r))) h' := by
  unfold g_L_oneByOne_b39 at hq
  refine jw_iconst dL_oneByOne_39 (v := (0 : Int32)) (by decide) ?_
  exact l_L_oneByOne_b40  hq

set_option maxRecDepth 100000 in
set_option maxHeartbeats 4000000 in
theorem l_L_oneByOne {hi : jw_H} {h : jw_H} {x0 : Option Nat} {r : Int32} {h' : jw_H} (hq : f_L_oneByOne  h x0 = some (r, h')) : jw_E 14 uL_oneByOne hi 0 [some (va_rf x0), none, none, none, none, none, none, none] [] h (.inl (some (.int r))) h' := by
  unfold f_L_oneByOne at hq
  refine jw_aload_n dL_oneByOne_0 (o := x0) rfl ?_
  obtain ⟨w2, h1, ew2, hq⟩ := jw_b2_spec hq
  refine jw_callS (As := [va_rf x0]) (S := []) (v := some (.long w2)) dL_oneByOne_1 mt_L_rows st_L_rows lk_L_83 (c_L_rows ew2) rfl (by decide) (Nat.le_of_ble_eq_true rfl) rfl ?_
  refine jw_lstore_n (L' := [some (va_rf x0), some (.long w2), none, none, none, none, none, none]) dL_oneByOne_4 (Nat.le_of_ble_eq_true rfl) ((jw_st2_of (j := 0) jw_long_rf).trans rfl) ?_
  refine jw_aload_n dL_oneByOne_5 (o := x0) rfl ?_
  obtain ⟨a3, ea3, hq⟩ := Option.bind_eq_some_iff.mp hq
  obtain ⟨eoa3, eta3⟩ := jw_rc_spec ea3
  obtain ⟨w5, h4, ew5, hq⟩ := jw_b2_spec hq
  refine jw_callV (As := []) (S := []) (a := a3) (v := some (.int w5)) dL_oneByOne_6 mt_X11_wipe in_X11_wipe se_X11_wipe lk_L_17 (c_X11_wipe ew5) eta3 (by decide) rfl rfl (by decide) (Nat.le_of_ble_eq_true rfl) (by cases eoa3; rfl) ?_
  rcases jw_if hq with ⟨c6, hq⟩ | ⟨c6, hq⟩
  · refine jw_if_lt_t (tgt := 39) dL_oneByOne_9 (by decide) c6 ?_
    exact l_L_oneByOne_b39  hq
  · refine jw_if_lt_f (tgt := 39) dL_oneByOne_9 (by decide) c6 ?_
    refine jw_aload_n dL_oneByOne_12 (o := x0) rfl ?_
    refine jw_ldc2 dL_oneByOne_13 cw_L_146 ?_
    refine jw_bipush dL_oneByOne_16 (v := (9 : Int32)) (by decide) ?_
    obtain ⟨w8, h7, ew8, hq⟩ := jw_b2_spec hq
    refine jw_callS (As := [va_rf x0, .long (7227361623303518629 : Int64), .int (9 : Int32)]) (S := []) (v := some (.int w8)) dL_oneByOne_18 mt_L_typed st_L_typed lk_L_23 (c_L_typed ew8) rfl (by decide) (Nat.le_of_ble_eq_true rfl) rfl ?_
    rcases jw_if hq with ⟨c9, hq⟩ | ⟨c9, hq⟩
    · refine jw_if_eq_t (tgt := 39) dL_oneByOne_21 (by decide) c9 ?_
      exact l_L_oneByOne_b39  hq
    · refine jw_if_eq_f (tgt := 39) dL_oneByOne_21 (by decide) c9 ?_
      refine jw_aload_n dL_oneByOne_24 (o := x0) rfl ?_
      refine jw_ldc2 dL_oneByOne_25 cw_L_148 ?_
      refine jw_iconst dL_oneByOne_28 (v := (1 : Int32)) (by decide) ?_
      obtain ⟨w11, h10, ew11, hq⟩ := jw_b2_spec hq
      refine jw_callS (As := [va_rf x0, .long (47 : Int64), .int (1 : Int32)]) (S := []) (v := some (.int w11)) dL_oneByOne_29 mt_L_typed st_L_typed lk_L_23 (c_L_typed ew11) rfl (by decide) (Nat.le_of_ble_eq_true rfl) rfl ?_
      rcases jw_if hq with ⟨c12, hq⟩ | ⟨c12, hq⟩
      · refine jw_if_eq_t (tgt := 39) dL_oneByOne_32 (by decide) c12 ?_
        exact l_L_oneByOne_b39  hq
      · refine jw_if_eq_f (tgt := 39) dL_oneByOne_32 (by decide) c12 ?_
        refine jw_iconst dL_oneByOne_35 (v := (1 : Int32)) (by decide) ?_
        refine jw_goto (tgt := 40) dL_oneByOne_36 (by decide) ?_
        exact l_L_oneByOne_b40  hq

theorem c_L_oneByOne {h : jw_H} {x0 : Option Nat} {r : Int32} {h' : jw_H} (hq : f_L_oneByOne h x0 = some (r, h')) : jw_Con (Cond.code yL_oneByOne cL_oneByOne 8 (some .boolean)) yL_oneByOne 14 [va_rf x0] h (.inl (some (.int r))) h' :=
  jw_con false (plainFor_of_name (by decide +kernel)) (fun z => nomatch z) (by simp [jw_ent, jw_sl0_nil, jw_sl0_int, jw_sl0_long, jw_sl0_ref, jw_sl0_rf, jw_sl0_scr, List.replicate]) (by simp [jw_sl0_nil, jw_sl0_int, jw_sl0_long, jw_sl0_ref, jw_sl0_rf, jw_sl0_scr]) (l_L_oneByOne hq)

/-! L_found -/
abbrev uL_found : jw_U := (yL_found.cls, cL_found, 5, false, (some .boolean), some [], none)

noncomputable def g_L_found_b80 (k36 : jw_H → Option Nat → Int32 → Int32 → Int32 → Option (Int32 × jw_H)) (h : jw_H) (x0 : Option Nat) (x1 : Int32) (x3 : Int32) (t0 : Int32) : Option (Int32 × jw_H) :=
 k36 h x0 x1 t0 (x3 + (1 : Int32))

noncomputable def g_L_found_b124 (h : jw_H) (t0 : Int32) : Option (Int32 × jw_H) :=
 (jw_rb t0).bind fun v1 =>
 some (t0, h)

noncomputable def g_L_found_b119 (h : jw_H)  : Option (Int32 × jw_H) :=
 g_L_found_b124  h (1 : Int32)

noncomputable def g_L_found_b123 (h : jw_H)  : Option (Int32 × jw_H) :=
 g_L_found_b124  h (0 : Int32)

noncomputable def g_L_found_b87 (h : jw_H) (x0 : Option Nat) (x1 : Int32) (x2 : Int32) : Option (Int32 × jw_H) :=
 if x1 = 0 then (g_L_found_b123  h )
 else ((jw_rc h 11 x0).bind fun a2 =>
 jw_b2 (f_X11_find h a2 (0 : Int32)) fun ww4 h3 =>
 jw_iw ww4 fun w4 =>
 if w4 = x2 then (if x2 < 0 then (g_L_found_b119  h3 )
 else ((jw_rc h3 11 x0).bind fun a7 =>
 jw_b2 (f_X11_findEnd h3 a7 x2) fun ww9 h8 =>
 jw_iw ww9 fun w9 =>
 (jw_rc h8 11 x0).bind fun a10 =>
 jw_b2 (f_X11_findStart h8 a10 x2) fun ww12 h11 =>
 jw_iw ww12 fun w12 =>
 if w9 ≤ (w12 + (1 : Int32)) then (g_L_found_b123  h11 )
 else (g_L_found_b119  h11 )))
 else (g_L_found_b123  h3 ))

noncomputable def g_L_found_b36 (k36 : jw_H → Option Nat → Int32 → Int32 → Int32 → Option (Int32 × jw_H)) (h : jw_H) (x0 : Option Nat) (x1 : Int32) (x2 : Int32) (x3 : Int32) : Option (Int32 × jw_H) :=
 (jw_rc h 11 x0).bind fun a1 =>
 jw_b2 (f_X11_lines h a1) fun w3 h2 =>
 if w3 < x3 then (g_L_found_b87  h2 x0 x1 x2)
 else (if 0 ≤ x2 then (g_L_found_b87  h2 x0 x1 x2)
 else ((jw_rc h2 11 x0).bind fun a6 =>
 jw_b2 (f_X11_present h2 a6) fun w8 h7 =>
 (jw_rc h7 11 x0).bind fun a9 =>
 jw_b2 (f_X11_lines h7 a9) fun w11 h10 =>
 (jw_nz w11).bind fun v12 =>
 (jw_rc h10 11 x0).bind fun a13 =>
 jw_b2 (f_X11_findStart h10 a13 ((((w8 - (1 : Int32)) + x3) - ((w8 - (1 : Int32)) + x3) / w11 * w11) + (1 : Int32))) fun ww15 h14 =>
 jw_iw ww15 fun w15 =>
 if w15 < 0 then (g_L_found_b80 k36 h14 x0 x1 x3 x2)
 else (g_L_found_b80 k36 h14 x0 x1 x3 ((((w8 - (1 : Int32)) + x3) - ((w8 - (1 : Int32)) + x3) / w11 * w11) + (1 : Int32)))))

noncomputable def f_L_found_b36 (n : Nat) : jw_H → Option Nat → Int32 → Int32 → Int32 → Option (Int32 × jw_H) :=
 Nat.rec (fun _ _ _ _ _ => none) (fun _ k36 => g_L_found_b36 k36) n

noncomputable def g_L_found_b31 (h : jw_H) (x0 : Option Nat) (t0 : Int32) : Option (Int32 × jw_H) :=
 f_L_found_b36  jw_FU h x0 t0 (-1 : Int32) (1 : Int32)

noncomputable def g_L_found_b30 (h : jw_H) (x0 : Option Nat) : Option (Int32 × jw_H) :=
 g_L_found_b31  h x0 (0 : Int32)

noncomputable def f_L_found (h : jw_H) (x0 : Option Nat) : Option (Int32 × jw_H) :=
 (jw_rc h 11 x0).bind fun a1 =>
 jw_b2 (f_X11_wipe h a1) fun w3 h2 =>
 if w3 < 0 then (g_L_found_b30  h2 x0)
 else (jw_b2 (f_L_typed h2 x0 (1611105 : Int64) (3 : Int32)) fun w6 h5 =>
 if w6 = 0 then (g_L_found_b30  h5 x0)
 else ((jw_rc h5 11 x0).bind fun a8 =>
 jw_b2 (f_X11_patternFault h5 a8) fun w10 h9 =>
 if w10 = (-1 : Int32) then (g_L_found_b31  h9 x0 (1 : Int32))
 else (g_L_found_b30  h9 x0)))

set_option maxRecDepth 100000 in
set_option maxHeartbeats 4000000 in
theorem l_L_found_b80 {hi : jw_H} {k36 : jw_H → Option Nat → Int32 → Int32 → Int32 → Option (Int32 × jw_H)} (hk36 : ∀ (h : jw_H) (x0 : Option Nat) (x1 : Int32) (x2 : Int32) (x3 : Int32) (r : Int32) (h' : jw_H), k36 h x0 x1 x2 x3 = some (r, h') → jw_E 10 uL_found hi 36 [some (va_rf x0), some (.int x1), some (.int x2), some (.int x3), none] [] h (.inl (some (.int r))) h') {h : jw_H} {x0 : Option Nat} {x1 : Int32} {x3 : Int32} {t0 : Int32} {r : Int32} {h' : jw_H} (hq : g_L_found_b80 k36 h x0 x1 x3 t0 = some (r, h')) : jw_E 10 uL_found hi 80 [some (va_rf x0), some (.int x1), none, some (.int x3), none] [.int t0] h (.inl (some (.int r))) h' := by
  unfold g_L_found_b80 at hq
  refine jw_istore_n (L' := [some (va_rf x0), some (.int x1), some (.int t0), some (.int x3), none]) dL_found_80 (Nat.le_of_ble_eq_true rfl) rfl ?_
  refine jw_iinc (L' := [some (va_rf x0), some (.int x1), some (.int t0), some (.int (x3 + (1 : Int32))), none]) dL_found_81 rfl (v := (1 : Int32)) (by decide) (Nat.le_of_ble_eq_true rfl) rfl ?_
  refine jw_goto (tgt := 36) dL_found_84 (by decide) ?_
  exact hk36 _ _ _ _ _ _ _ hq

set_option maxRecDepth 100000 in
set_option maxHeartbeats 4000000 in
theorem l_L_found_b124 {hi : jw_H} {h : jw_H} {t0 : Int32} {r : Int32} {h' : jw_H} (hq : g_L_found_b124  h t0 = some (r, h')) : jw_E 10 uL_found hi 124 [none, none, none, none, none] [.int t0] h (.inl (some (.int r))) h' := by
  unfold g_L_found_b124 at hq
  refine jw_istore_n (L' := [none, some (.int t0), none, none, none]) dL_found_124 (Nat.le_of_ble_eq_true rfl) rfl ?_
  refine jw_iload_n dL_found_125 rfl ?_
  obtain ⟨v1, ev1, hq⟩ := Option.bind_eq_some_iff.mp hq
  cases hq
  exact jw_iret (ty := .boolean) dL_found_126 rfl (jw_rb_spec ev1)

set_option maxRecDepth 100000 in
set_option maxHeartbeats 4000000 in
theorem l_L_found_b119 {hi : jw_H} {h : jw_H}  {r : Int32} {h' : jw_H} (hq : g_L_found_b119  h  = some (r, h')) : jw_E 10 uL_found hi 119 [none, none, none, none, none] [] h (.inl (some (.int r))) h' := by
  unfold g_L_found_b119 at hq
  refine jw_iconst dL_found_119 (v := (1 : Int32)) (by decide) ?_
  refine jw_goto (tgt := 124) dL_found_120 (by decide) ?_
  exact l_L_found_b124  hq

set_option maxRecDepth 100000 in
set_option maxHeartbeats 4000000 in
theorem l_L_found_b123 {hi : jw_H} {h : jw_H}  {r : Int32} {h' : jw_H} (hq : g_L_found_b123  h  = some (r, h')) : jw_E 10 uL_found hi 123 [none, none, none, none, none] [] h (.inl (some (.int r))) h' := by
  unfold g_L_found_b123 at hq
  refine jw_iconst dL_found_123 (v := (0 : Int32)) (by decide) ?_
  exact l_L_found_b124  hq

set_option maxRecDepth 100000 in
set_option maxHeartbeats 4000000 in
theorem l_L_found_b87 {hi : jw_H} {h : jw_H} {x0 : Option Nat} {x1 : Int32} {x2 : Int32} {r : Int32} {h' : jw_H} (hq : g_L_found_b87  h x0 x1 x2 = some (r, h')) : jw_E 10 uL_found hi 87 [some (va_rf x0), some (.int x1), some (.int x2), none, none] [] h (.inl (some (.int r))) h' := by
  unfold g_L_found_b87 at hq
  refine jw_iload_n dL_found_87 rfl ?_
  rcases jw_if hq with ⟨c1, hq⟩ | ⟨c1, hq⟩
  · refine jw_if_eq_t (tgt := 123) dL_found_88 (by decide) c1 ?_
    refine jw_forget [false, false, false, true, true] (L' := [none, none, none, none, none]) rfl ?_
    exact l_L_found_b123  hq
  · refine jw_if_eq_f (tgt := 123) dL_found_88 (by decide) c1 ?_
    refine jw_aload_n dL_found_91 (o := x0) rfl ?_
    refine jw_iconst dL_found_92 (v := (0 : Int32)) (by decide) ?_
    obtain ⟨a2, ea2, hq⟩ := Option.bind_eq_some_iff.mp hq
    obtain ⟨eoa2, eta2⟩ := jw_rc_spec ea2
    obtain ⟨ww4, h3, ew4, hq⟩ := jw_b2_spec hq
    rcases ww4 with w4 | Ew4
    · replace hq := jw_iw_l hq
      refine jw_callV (As := [.int (0 : Int32)]) (S := []) (a := a2) (v := some (.int w4)) dL_found_93 mt_X11_find in_X11_find se_X11_find lk_L_160 (c_X11_find ew4) eta2 (by decide) rfl rfl (by decide) (Nat.le_of_ble_eq_true rfl) (by cases eoa2; rfl) ?_
      refine jw_iload_n dL_found_96 rfl ?_
      rcases jw_if hq with ⟨c5, hq⟩ | ⟨c5, hq⟩
      · refine jw_icmp_ne_f (tgt := 123) dL_found_97 (by decide) c5 ?_
        refine jw_iload_n dL_found_100 rfl ?_
        rcases jw_if hq with ⟨c6, hq⟩ | ⟨c6, hq⟩
        · refine jw_if_lt_t (tgt := 119) dL_found_101 (by decide) c6 ?_
          refine jw_forget [false, false, false, true, true] (L' := [none, none, none, none, none]) rfl ?_
          exact l_L_found_b119  hq
        · refine jw_if_lt_f (tgt := 119) dL_found_101 (by decide) c6 ?_
          refine jw_aload_n dL_found_104 (o := x0) rfl ?_
          refine jw_iload_n dL_found_105 rfl ?_
          obtain ⟨a7, ea7, hq⟩ := Option.bind_eq_some_iff.mp hq
          obtain ⟨eoa7, eta7⟩ := jw_rc_spec ea7
          obtain ⟨ww9, h8, ew9, hq⟩ := jw_b2_spec hq
          rcases ww9 with w9 | Ew9
          · replace hq := jw_iw_l hq
            refine jw_callV (As := [.int x2]) (S := []) (a := a7) (v := some (.int w9)) dL_found_106 mt_X11_findEnd in_X11_findEnd se_X11_findEnd lk_L_164 (c_X11_findEnd ew9) eta7 (by decide) rfl rfl (by decide) (Nat.le_of_ble_eq_true rfl) (by cases eoa7; rfl) ?_
            refine jw_aload_n dL_found_109 (o := x0) rfl ?_
            refine jw_iload_n dL_found_110 rfl ?_
            obtain ⟨a10, ea10, hq⟩ := Option.bind_eq_some_iff.mp hq
            obtain ⟨eoa10, eta10⟩ := jw_rc_spec ea10
            obtain ⟨ww12, h11, ew12, hq⟩ := jw_b2_spec hq
            rcases ww12 with w12 | Ew12
            · replace hq := jw_iw_l hq
              refine jw_callV (As := [.int x2]) (S := [.int w9]) (a := a10) (v := some (.int w12)) dL_found_111 mt_X11_findStart in_X11_findStart se_X11_findStart lk_L_157 (c_X11_findStart ew12) eta10 (by decide) rfl rfl (by decide) (Nat.le_of_ble_eq_true rfl) (by cases eoa10; rfl) ?_
              refine jw_iconst dL_found_114 (v := (1 : Int32)) (by decide) ?_
              refine jw_iadd dL_found_115 ?_
              rcases jw_if hq with ⟨c13, hq⟩ | ⟨c13, hq⟩
              · refine jw_icmp_le_t (tgt := 123) dL_found_116 (by decide) c13 ?_
                refine jw_forget [false, false, false, true, true] (L' := [none, none, none, none, none]) rfl ?_
                exact l_L_found_b123  hq
              · refine jw_icmp_le_f (tgt := 123) dL_found_116 (by decide) c13 ?_
                refine jw_forget [false, false, false, true, true] (L' := [none, none, none, none, none]) rfl ?_
                exact l_L_found_b119  hq
            · exact nomatch hq
          · exact nomatch hq
      · refine jw_icmp_ne_t (tgt := 123) dL_found_97 (by decide) c5 ?_
        refine jw_forget [false, false, false, true, true] (L' := [none, none, none, none, none]) rfl ?_
        exact l_L_found_b123  hq
    · exact nomatch hq

set_option maxRecDepth 100000 in
set_option maxHeartbeats 4000000 in
theorem l_L_found_b36g {hi : jw_H} {k36 : jw_H → Option Nat → Int32 → Int32 → Int32 → Option (Int32 × jw_H)} (hk36 : ∀ (h : jw_H) (x0 : Option Nat) (x1 : Int32) (x2 : Int32) (x3 : Int32) (r : Int32) (h' : jw_H), k36 h x0 x1 x2 x3 = some (r, h') → jw_E 10 uL_found hi 36 [some (va_rf x0), some (.int x1), some (.int x2), some (.int x3), none] [] h (.inl (some (.int r))) h') {h : jw_H} {x0 : Option Nat} {x1 : Int32} {x2 : Int32} {x3 : Int32} {r : Int32} {h' : jw_H} (hq : g_L_found_b36 k36 h x0 x1 x2 x3 = some (r, h')) : jw_E 10 uL_found hi 36 [some (va_rf x0), some (.int x1), some (.int x2), some (.int x3), none] [] h (.inl (some (.int r))) h' := by
  unfold g_L_found_b36 at hq
  refine jw_iload_n dL_found_36 rfl ?_
  refine jw_aload_n dL_found_37 (o := x0) rfl ?_
  obtain ⟨a1, ea1, hq⟩ := Option.bind_eq_some_iff.mp hq
  obtain ⟨eoa1, eta1⟩ := jw_rc_spec ea1
  obtain ⟨w3, h2, ew3, hq⟩ := jw_b2_spec hq
  refine jw_callV (As := []) (S := [.int x3]) (a := a1) (v := some (.int w3)) dL_found_38 mt_X11_lines in_X11_lines se_X11_lines lk_L_71 (c_X11_lines ew3) eta1 (by decide) rfl rfl (by decide) (Nat.le_of_ble_eq_true rfl) (by cases eoa1; rfl) ?_
  rcases jw_if hq with ⟨c4, hq⟩ | ⟨c4, hq⟩
  · refine jw_icmp_gt_t (tgt := 87) dL_found_41 (by decide) c4 ?_
    refine jw_forget [true, true, true, false, true] (L' := [some (va_rf x0), some (.int x1), some (.int x2), none, none]) rfl ?_
    exact l_L_found_b87  hq
  · refine jw_icmp_gt_f (tgt := 87) dL_found_41 (by decide) c4 ?_
    refine jw_iload_n dL_found_44 rfl ?_
    rcases jw_if hq with ⟨c5, hq⟩ | ⟨c5, hq⟩
    · refine jw_if_ge_t (tgt := 87) dL_found_45 (by decide) c5 ?_
      refine jw_forget [true, true, true, false, true] (L' := [some (va_rf x0), some (.int x1), some (.int x2), none, none]) rfl ?_
      exact l_L_found_b87  hq
    · refine jw_if_ge_f (tgt := 87) dL_found_45 (by decide) c5 ?_
      refine jw_aload_n dL_found_48 (o := x0) rfl ?_
      obtain ⟨a6, ea6, hq⟩ := Option.bind_eq_some_iff.mp hq
      obtain ⟨eoa6, eta6⟩ := jw_rc_spec ea6
      obtain ⟨w8, h7, ew8, hq⟩ := jw_b2_spec hq
      refine jw_callV (As := []) (S := []) (a := a6) (v := some (.int w8)) dL_found_49 mt_X11_present in_X11_present se_X11_present lk_L_87 (c_X11_present ew8) eta6 (by decide) rfl rfl (by decide) (Nat.le_of_ble_eq_true rfl) (by cases eoa6; rfl) ?_
      refine jw_iconst dL_found_52 (v := (1 : Int32)) (by decide) ?_
      refine jw_isub dL_found_53 ?_
      refine jw_iload_n dL_found_54 rfl ?_
      refine jw_iadd dL_found_55 ?_
      refine jw_aload_n dL_found_56 (o := x0) rfl ?_
      obtain ⟨a9, ea9, hq⟩ := Option.bind_eq_some_iff.mp hq
      obtain ⟨eoa9, eta9⟩ := jw_rc_spec ea9
      obtain ⟨w11, h10, ew11, hq⟩ := jw_b2_spec hq
      refine jw_callV (As := []) (S := [.int ((w8 - (1 : Int32)) + x3)]) (a := a9) (v := some (.int w11)) dL_found_57 mt_X11_lines in_X11_lines se_X11_lines lk_L_71 (c_X11_lines ew11) eta9 (by decide) rfl rfl (by decide) (Nat.le_of_ble_eq_true rfl) (by cases eoa9; rfl) ?_
      obtain ⟨v12, ev12, hq⟩ := Option.bind_eq_some_iff.mp hq
      refine jw_irem dL_found_60 (jw_nz_spec ev12) ?_
      refine jw_iconst dL_found_61 (v := (1 : Int32)) (by decide) ?_
      refine jw_iadd dL_found_62 ?_
      refine jw_istore (L' := [some (va_rf x0), some (.int x1), some (.int x2), some (.int x3), some (.int ((((w8 - (1 : Int32)) + x3) - ((w8 - (1 : Int32)) + x3) / w11 * w11) + (1 : Int32)))]) dL_found_63 (Nat.le_of_ble_eq_true rfl) rfl ?_
      refine jw_aload_n dL_found_65 (o := x0) rfl ?_
      refine jw_iload dL_found_66 rfl ?_
      obtain ⟨a13, ea13, hq⟩ := Option.bind_eq_some_iff.mp hq
      obtain ⟨eoa13, eta13⟩ := jw_rc_spec ea13
      obtain ⟨ww15, h14, ew15, hq⟩ := jw_b2_spec hq
      rcases ww15 with w15 | Ew15
      · replace hq := jw_iw_l hq
        refine jw_callV (As := [.int ((((w8 - (1 : Int32)) + x3) - ((w8 - (1 : Int32)) + x3) / w11 * w11) + (1 : Int32))]) (S := []) (a := a13) (v := some (.int w15)) dL_found_68 mt_X11_findStart in_X11_findStart se_X11_findStart lk_L_157 (c_X11_findStart ew15) eta13 (by decide) rfl rfl (by decide) (Nat.le_of_ble_eq_true rfl) (by cases eoa13; rfl) ?_
        rcases jw_if hq with ⟨c16, hq⟩ | ⟨c16, hq⟩
        · refine jw_if_lt_t (tgt := 79) dL_found_71 (by decide) c16 ?_
          refine jw_iload_n dL_found_79 rfl ?_
          refine jw_forget [true, true, false, true, false] (L' := [some (va_rf x0), some (.int x1), none, some (.int x3), none]) rfl ?_
          exact l_L_found_b80 hk36 hq
        · refine jw_if_lt_f (tgt := 79) dL_found_71 (by decide) c16 ?_
          refine jw_iload dL_found_74 rfl ?_
          refine jw_goto (tgt := 80) dL_found_76 (by decide) ?_
          refine jw_forget [true, true, false, true, false] (L' := [some (va_rf x0), some (.int x1), none, some (.int x3), none]) rfl ?_
          exact l_L_found_b80 hk36 hq
      · exact nomatch hq

theorem l_L_found_b36 {hi : jw_H} : ∀ (n : Nat) (h : jw_H) (x0 : Option Nat) (x1 : Int32) (x2 : Int32) (x3 : Int32) (r : Int32) (h' : jw_H), f_L_found_b36  n h x0 x1 x2 x3 = some (r, h') → jw_E 10 uL_found hi 36 [some (va_rf x0), some (.int x1), some (.int x2), some (.int x3), none] [] h (.inl (some (.int r))) h' := by
  intro n
  induction n with
  | zero => intro h x0 x1 x2 x3 r h' hq; exact nomatch hq
  | succ n ih => intro h x0 x1 x2 x3 r h' hq; exact l_L_found_b36g ih hq

set_option maxRecDepth 100000 in
set_option maxHeartbeats 4000000 in
theorem l_L_found_b31 {hi : jw_H} {h : jw_H} {x0 : Option Nat} {t0 : Int32} {r : Int32} {h' : jw_H} (hq : g_L_found_b31  h x0 t0 = some (r, h')) : jw_E 10 uL_found hi 31 [some (va_rf x0), none, none, none, none] [.int t0] h (.inl (some (.int r))) h' := by
  unfold g_L_found_b31 at hq
  refine jw_istore_n (L' := [some (va_rf x0), some (.int t0), none, none, none]) dL_found_31 (Nat.le_of_ble_eq_true rfl) ((jw_st1_of (j := 0) jw_long_rf).trans rfl) ?_
  refine jw_iconst dL_found_32 (v := (-1 : Int32)) (by decide) ?_
  refine jw_istore_n (L' := [some (va_rf x0), some (.int t0), some (.int (-1 : Int32)), none, none]) dL_found_33 (Nat.le_of_ble_eq_true rfl) rfl ?_
  refine jw_iconst dL_found_34 (v := (1 : Int32)) (by decide) ?_
  refine jw_istore_n (L' := [some (va_rf x0), some (.int t0), some (.int (-1 : Int32)), some (.int (1 : Int32)), none]) dL_found_35 (Nat.le_of_ble_eq_true rfl) rfl ?_
  exact l_L_found_b36  jw_FU _ _ _ _ _ _ _ hq

set_option maxRecDepth 100000 in
set_option maxHeartbeats 4000000 in
theorem l_L_found_b30 {hi : jw_H} {h : jw_H} {x0 : Option Nat} {r : Int32} {h' : jw_H} (hq : g_L_found_b30  h x0 = some (r, h')) : jw_E 10 uL_found hi 30 [some (va_rf x0), none, none, none, none] [] h (.inl (some (.int r))) h' := by
  unfold g_L_found_b30 at hq
  refine jw_iconst dL_found_30 (v := (0 : Int32)) (by decide) ?_
  exact l_L_found_b31  hq

set_option maxRecDepth 100000 in
set_option maxHeartbeats 4000000 in
theorem l_L_found {hi : jw_H} {h : jw_H} {x0 : Option Nat} {r : Int32} {h' : jw_H} (hq : f_L_found  h x0 = some (r, h')) : jw_E 10 uL_found hi 0 [some (va_rf x0), none, none, none, none] [] h (.inl (some (.int r))) h' := by
  unfold f_L_found at hq
  refine jw_aload_n dL_found_0 (o := x0) rfl ?_
  obtain ⟨a1, ea1, hq⟩ := Option.bind_eq_some_iff.mp hq
  obtain ⟨eoa1, eta1⟩ := jw_rc_spec ea1
  obtain ⟨w3, h2, ew3, hq⟩ := jw_b2_spec hq
  refine jw_callV (As := []) (S := []) (a := a1) (v := some (.int w3)) dL_found_1 mt_X11_wipe in_X11_wipe se_X11_wipe lk_L_17 (c_X11_wipe ew3) eta1 (by decide) rfl rfl (by decide) (Nat.le_of_ble_eq_true rfl) (by cases eoa1; rfl) ?_
  rcases jw_if hq with ⟨c4, hq⟩ | ⟨c4, hq⟩
  · refine jw_if_lt_t (tgt := 30) dL_found_4 (by decide) c4 ?_
    exact l_L_found_b30  hq
  · refine jw_if_lt_f (tgt := 30) dL_found_4 (by decide) c4 ?_
    refine jw_aload_n dL_found_7 (o := x0) rfl ?_
    refine jw_ldc2 dL_found_8 cw_L_152 ?_
    refine jw_iconst dL_found_11 (v := (3 : Int32)) (by decide) ?_
    obtain ⟨w6, h5, ew6, hq⟩ := jw_b2_spec hq
    refine jw_callS (As := [va_rf x0, .long (1611105 : Int64), .int (3 : Int32)]) (S := []) (v := some (.int w6)) dL_found_12 mt_L_typed st_L_typed lk_L_23 (c_L_typed ew6) rfl (by decide) (Nat.le_of_ble_eq_true rfl) rfl ?_
    rcases jw_if hq with ⟨c7, hq⟩ | ⟨c7, hq⟩
    · refine jw_if_eq_t (tgt := 30) dL_found_15 (by decide) c7 ?_
      exact l_L_found_b30  hq
    · refine jw_if_eq_f (tgt := 30) dL_found_15 (by decide) c7 ?_
      refine jw_aload_n dL_found_18 (o := x0) rfl ?_
      obtain ⟨a8, ea8, hq⟩ := Option.bind_eq_some_iff.mp hq
      obtain ⟨eoa8, eta8⟩ := jw_rc_spec ea8
      obtain ⟨w10, h9, ew10, hq⟩ := jw_b2_spec hq
      refine jw_callV (As := []) (S := []) (a := a8) (v := some (.int w10)) dL_found_19 mt_X11_patternFault in_X11_patternFault se_X11_patternFault lk_L_154 (c_X11_patternFault ew10) eta8 (by decide) rfl rfl (by decide) (Nat.le_of_ble_eq_true rfl) (by cases eoa8; rfl) ?_
      refine jw_iconst dL_found_22 (v := (-1 : Int32)) (by decide) ?_
      rcases jw_if hq with ⟨c11, hq⟩ | ⟨c11, hq⟩
      · refine jw_icmp_ne_f (tgt := 30) dL_found_23 (by decide) c11 ?_
        refine jw_iconst dL_found_26 (v := (1 : Int32)) (by decide) ?_
        refine jw_goto (tgt := 31) dL_found_27 (by decide) ?_
        exact l_L_found_b31  hq
      · refine jw_icmp_ne_t (tgt := 30) dL_found_23 (by decide) c11 ?_
        exact l_L_found_b30  hq

theorem c_L_found {h : jw_H} {x0 : Option Nat} {r : Int32} {h' : jw_H} (hq : f_L_found h x0 = some (r, h')) : jw_Con (Cond.code yL_found cL_found 5 (some .boolean)) yL_found 10 [va_rf x0] h (.inl (some (.int r))) h' :=
  jw_con false (plainFor_of_name (by decide +kernel)) (fun z => nomatch z) (by simp [jw_ent, jw_sl0_nil, jw_sl0_int, jw_sl0_long, jw_sl0_ref, jw_sl0_rf, jw_sl0_scr, List.replicate]) (by simp [jw_sl0_nil, jw_sl0_int, jw_sl0_long, jw_sl0_ref, jw_sl0_rf, jw_sl0_scr]) (l_L_found hq)

/-! L_law -/
abbrev uL_law (Ls : Nat) (xs : Nat → Int32) : jw_U := (RL, cL_law, 4, false, some .boolean, none, some (Ls, xs))

noncomputable def g_L_law_b145 (Ls : Nat) (xs : Nat → Int32) (k45 : jw_H → Nat → Int32 → Int32 → Option (Int32 × jw_H)) (h : jw_H) (x1 : Nat) (x3 : Int32) (t0 : Int32) : Option (Int32 × jw_H) :=
 k45 h x1 t0 (x3 + (1 : Int32))

noncomputable def g_L_law_b140 (Ls : Nat) (xs : Nat → Int32) (k45 : jw_H → Nat → Int32 → Int32 → Option (Int32 × jw_H)) (h : jw_H) (x1 : Nat) (x3 : Int32) : Option (Int32 × jw_H) :=
 g_L_law_b145 Ls xs k45 h x1 x3 (1 : Int32)

noncomputable def g_L_law_b144 (Ls : Nat) (xs : Nat → Int32) (k45 : jw_H → Nat → Int32 → Int32 → Option (Int32 × jw_H)) (h : jw_H) (x1 : Nat) (x3 : Int32) : Option (Int32 × jw_H) :=
 g_L_law_b145 Ls xs k45 h x1 x3 (0 : Int32)

noncomputable def g_L_law_b108 (Ls : Nat) (xs : Nat → Int32) (k45 : jw_H → Nat → Int32 → Int32 → Option (Int32 × jw_H)) (h : jw_H) (x1 : Nat) (x3 : Int32) (t0 : Int32) : Option (Int32 × jw_H) :=
 if t0 = 0 then (g_L_law_b144 Ls xs k45 h x1 x3)
 else (if 0 < (x3 - x3 / (3 : Int32) * (3 : Int32)) then (g_L_law_b140 Ls xs k45 h x1 x3)
 else (jw_b2 (f_L_streamed h (some x1)) fun w4 h3 =>
 if w4 = 0 then (g_L_law_b144 Ls xs k45 h3 x1 x3)
 else (jw_b2 (f_L_oneByOne h3 (some x1)) fun w7 h6 =>
 if w7 = 0 then (g_L_law_b144 Ls xs k45 h6 x1 x3)
 else (jw_b2 (f_L_found h6 (some x1)) fun w10 h9 =>
 if w10 = 0 then (g_L_law_b144 Ls xs k45 h9 x1 x3)
 else (g_L_law_b140 Ls xs k45 h9 x1 x3)))))

noncomputable def g_L_law_b103 (Ls : Nat) (xs : Nat → Int32) (k45 : jw_H → Nat → Int32 → Int32 → Option (Int32 × jw_H)) (h : jw_H) (x1 : Nat) (x3 : Int32) : Option (Int32 × jw_H) :=
 g_L_law_b108 Ls xs k45 h x1 x3 (1 : Int32)

noncomputable def g_L_law_b107 (Ls : Nat) (xs : Nat → Int32) (k45 : jw_H → Nat → Int32 → Int32 → Option (Int32 × jw_H)) (h : jw_H) (x1 : Nat) (x3 : Int32) : Option (Int32 × jw_H) :=
 g_L_law_b108 Ls xs k45 h x1 x3 (0 : Int32)

noncomputable def g_L_law_b168 (Ls : Nat) (xs : Nat → Int32) (h : jw_H) (t0 : Int32) : Option (Int32 × jw_H) :=
 (jw_rb t0).bind fun v1 =>
 some (t0, h)

noncomputable def g_L_law_b167 (Ls : Nat) (xs : Nat → Int32) (h : jw_H)  : Option (Int32 × jw_H) :=
 g_L_law_b168 Ls xs  h (0 : Int32)

noncomputable def g_L_law_b152 (Ls : Nat) (xs : Nat → Int32) (h : jw_H) (x1 : Nat) (x2 : Int32) : Option (Int32 × jw_H) :=
 if x2 = 0 then (g_L_law_b167 Ls xs  h )
 else ((jw_rc h 11 (some x1)).bind fun a2 =>
 jw_b2 (f_X11_isSound h a2) fun w4 h3 =>
 if w4 = 0 then (g_L_law_b167 Ls xs  h3 )
 else (g_L_law_b168 Ls xs  h3 (1 : Int32)))

noncomputable def g_L_law_b45 (Ls : Nat) (xs : Nat → Int32) (k45 : jw_H → Nat → Int32 → Int32 → Option (Int32 × jw_H)) (h : jw_H) (x1 : Nat) (x2 : Int32) (x3 : Int32) : Option (Int32 × jw_H) :=
 if (12 : Int32) ≤ x3 then (g_L_law_b152 Ls xs  h x1 x2)
 else (if x2 = 0 then (g_L_law_b152 Ls xs  h x1 x2)
 else (jw_b2 (f_L_cell Ls xs h ((2 : Int32) + x3)) fun w4 h3 =>
 jw_b2 (f_L_low h3 w4 (19 : Int32)) fun w6 h5 =>
 jw_b2 (f_L_undone h5 (some x1) w6) fun w8 h7 =>
 if w8 = 0 then (g_L_law_b107 Ls xs k45 h7 x1 x3)
 else ((jw_rc h7 11 (some x1)).bind fun a10 =>
 jw_b2 (f_X11_lines h7 a10) fun w12 h11 =>
 if (2 : Int32) < w12 then (g_L_law_b103 Ls xs k45 h11 x1 x3)
 else (jw_b2 (f_L_cell Ls xs h11 ((20 : Int32) + x3)) fun w15 h14 =>
 jw_b2 (f_L_low h14 w15 (65536 : Int32)) fun w17 h16 =>
 (jw_rc h16 11 (some x1)).bind fun a18 =>
 jw_b2 (f_X11_sample h16 a18 w17 (3 : Int32)) fun ww20 h19 =>
 jw_iw ww20 fun w20 =>
 if w20 ≤ 0 then (g_L_law_b107 Ls xs k45 h19 x1 x3)
 else (g_L_law_b103 Ls xs k45 h19 x1 x3)))))

noncomputable def f_L_law_b45 (Ls : Nat) (xs : Nat → Int32) (n : Nat) : jw_H → Nat → Int32 → Int32 → Option (Int32 × jw_H) :=
 Nat.rec (fun _ _ _ _ => none) (fun _ k45 => g_L_law_b45 Ls xs k45) n

noncomputable def g_L_law_b42 (Ls : Nat) (xs : Nat → Int32) (h : jw_H) (x1 : Nat) (t0 : Int32) : Option (Int32 × jw_H) :=
 f_L_law_b45 Ls xs  jw_FU h x1 t0 (0 : Int32)

noncomputable def f_L_law (Ls : Nat) (xs : Nat → Int32) (h : jw_H)  : Option (Int32 × jw_H) :=
 (some (jw_new h (11, 0) (jw_nf 11))).bind fun h1 =>
 jw_b2 (f_X11_init h1 (jw_n h)) fun w3 h2 =>
 jw_b2 (f_L_cell Ls xs h2 (0 : Int32)) fun w5 h4 =>
 jw_b2 (f_L_low h4 w5 (65536 : Int32)) fun w7 h6 =>
 jw_b2 (f_L_cell Ls xs h6 (1 : Int32)) fun w9 h8 =>
 jw_b2 (f_L_low h8 w9 (6 : Int32)) fun w11 h10 =>
 (jw_rc h10 11 (some (jw_n h))).bind fun a12 =>
 jw_b2 (f_X11_sample h10 a12 w7 ((4 : Int32) + w11)) fun ww14 h13 =>
 jw_iw ww14 fun w14 =>
 if w14 ≤ 0 then (g_L_law_b42 Ls xs  h13 (jw_n h) (0 : Int32))
 else (g_L_law_b42 Ls xs  h13 (jw_n h) (1 : Int32))

set_option maxRecDepth 100000 in
set_option maxHeartbeats 4000000 in
theorem l_L_law_b145 {Ls : Nat} {xs : Nat → Int32} {hi : jw_H} {k45 : jw_H → Nat → Int32 → Int32 → Option (Int32 × jw_H)} (hk45 : ∀ (h : jw_H) (x1 : Nat) (x2 : Int32) (x3 : Int32) (r : Int32) (h' : jw_H), k45 h x1 x2 x3 = some (r, h') → jw_E 15 (uL_law Ls xs) hi 45 [some (.retAddr 0), some (.ref x1), some (.int x2), some (.int x3)] [] h (.inl (some (.int r))) h') {h : jw_H} {x1 : Nat} {x3 : Int32} {t0 : Int32} {r : Int32} {h' : jw_H} (hq : g_L_law_b145 Ls xs k45 h x1 x3 t0 = some (r, h')) : jw_E 15 (uL_law Ls xs) hi 145 [some (.retAddr 0), some (.ref x1), none, some (.int x3)] [.int t0] h (.inl (some (.int r))) h' := by
  unfold g_L_law_b145 at hq
  refine jw_istore_n (L' := [some (.retAddr 0), some (.ref x1), some (.int t0), some (.int x3)]) dL_law_145 (Nat.le_of_ble_eq_true rfl) rfl ?_
  refine jw_iinc (L' := [some (.retAddr 0), some (.ref x1), some (.int t0), some (.int (x3 + (1 : Int32)))]) dL_law_146 rfl (v := (1 : Int32)) (by decide) (Nat.le_of_ble_eq_true rfl) rfl ?_
  refine jw_goto (tgt := 45) dL_law_149 (by decide) ?_
  exact hk45 _ _ _ _ _ _ hq

set_option maxRecDepth 100000 in
set_option maxHeartbeats 4000000 in
theorem l_L_law_b140 {Ls : Nat} {xs : Nat → Int32} {hi : jw_H} {k45 : jw_H → Nat → Int32 → Int32 → Option (Int32 × jw_H)} (hk45 : ∀ (h : jw_H) (x1 : Nat) (x2 : Int32) (x3 : Int32) (r : Int32) (h' : jw_H), k45 h x1 x2 x3 = some (r, h') → jw_E 15 (uL_law Ls xs) hi 45 [some (.retAddr 0), some (.ref x1), some (.int x2), some (.int x3)] [] h (.inl (some (.int r))) h') {h : jw_H} {x1 : Nat} {x3 : Int32} {r : Int32} {h' : jw_H} (hq : g_L_law_b140 Ls xs k45 h x1 x3 = some (r, h')) : jw_E 15 (uL_law Ls xs) hi 140 [some (.retAddr 0), some (.ref x1), none, some (.int x3)] [] h (.inl (some (.int r))) h' := by
  unfold g_L_law_b140 at hq
  refine jw_iconst dL_law_140 (v := (1 : Int32)) (by decide) ?_
  refine jw_goto (tgt := 145) dL_law_141 (by decide) ?_
  exact l_L_law_b145 hk45 hq

set_option maxRecDepth 100000 in
set_option maxHeartbeats 4000000 in
theorem l_L_law_b144 {Ls : Nat} {xs : Nat → Int32} {hi : jw_H} {k45 : jw_H → Nat → Int32 → Int32 → Option (Int32 × jw_H)} (hk45 : ∀ (h : jw_H) (x1 : Nat) (x2 : Int32) (x3 : Int32) (r : Int32) (h' : jw_H), k45 h x1 x2 x3 = some (r, h') → jw_E 15 (uL_law Ls xs) hi 45 [some (.retAddr 0), some (.ref x1), some (.int x2), some (.int x3)] [] h (.inl (some (.int r))) h') {h : jw_H} {x1 : Nat} {x3 : Int32} {r : Int32} {h' : jw_H} (hq : g_L_law_b144 Ls xs k45 h x1 x3 = some (r, h')) : jw_E 15 (uL_law Ls xs) hi 144 [some (.retAddr 0), some (.ref x1), none, some (.int x3)] [] h (.inl (some (.int r))) h' := by
  unfold g_L_law_b144 at hq
  refine jw_iconst dL_law_144 (v := (0 : Int32)) (by decide) ?_
  exact l_L_law_b145 hk45 hq

set_option maxRecDepth 100000 in
set_option maxHeartbeats 4000000 in
theorem l_L_law_b108 {Ls : Nat} {xs : Nat → Int32} {hi : jw_H} {k45 : jw_H → Nat → Int32 → Int32 → Option (Int32 × jw_H)} (hk45 : ∀ (h : jw_H) (x1 : Nat) (x2 : Int32) (x3 : Int32) (r : Int32) (h' : jw_H), k45 h x1 x2 x3 = some (r, h') → jw_E 15 (uL_law Ls xs) hi 45 [some (.retAddr 0), some (.ref x1), some (.int x2), some (.int x3)] [] h (.inl (some (.int r))) h') {h : jw_H} {x1 : Nat} {x3 : Int32} {t0 : Int32} {r : Int32} {h' : jw_H} (hq : g_L_law_b108 Ls xs k45 h x1 x3 t0 = some (r, h')) : jw_E 15 (uL_law Ls xs) hi 108 [some (.retAddr 0), some (.ref x1), none, some (.int x3)] [.int t0] h (.inl (some (.int r))) h' := by
  unfold g_L_law_b108 at hq
  refine jw_istore_n (L' := [some (.retAddr 0), some (.ref x1), some (.int t0), some (.int x3)]) dL_law_108 (Nat.le_of_ble_eq_true rfl) rfl ?_
  refine jw_iload_n dL_law_109 rfl ?_
  rcases jw_if hq with ⟨c1, hq⟩ | ⟨c1, hq⟩
  · refine jw_if_eq_t (tgt := 144) dL_law_110 (by decide) c1 ?_
    refine jw_forget [true, true, false, true] (L' := [some (.retAddr 0), some (.ref x1), none, some (.int x3)]) rfl ?_
    exact l_L_law_b144 hk45 hq
  · refine jw_if_eq_f (tgt := 144) dL_law_110 (by decide) c1 ?_
    refine jw_iload_n dL_law_113 rfl ?_
    refine jw_iconst dL_law_114 (v := (3 : Int32)) (by decide) ?_
    refine jw_irem dL_law_115 (by decide) ?_
    rcases jw_if hq with ⟨c2, hq⟩ | ⟨c2, hq⟩
    · refine jw_if_gt_t (tgt := 140) dL_law_116 (by decide) c2 ?_
      refine jw_forget [true, true, false, true] (L' := [some (.retAddr 0), some (.ref x1), none, some (.int x3)]) rfl ?_
      exact l_L_law_b140 hk45 hq
    · refine jw_if_gt_f (tgt := 140) dL_law_116 (by decide) c2 ?_
      refine jw_aload_n dL_law_119 (o := (some x1)) rfl ?_
      obtain ⟨w4, h3, ew4, hq⟩ := jw_b2_spec hq
      refine jw_callS (As := [va_rf (some x1)]) (S := []) (v := some (.int w4)) dL_law_120 mt_L_streamed st_L_streamed lk_L_182 (c_L_streamed ew4) rfl (by decide) (Nat.le_of_ble_eq_true rfl) rfl ?_
      rcases jw_if hq with ⟨c5, hq⟩ | ⟨c5, hq⟩
      · refine jw_if_eq_t (tgt := 144) dL_law_123 (by decide) c5 ?_
        refine jw_forget [true, true, false, true] (L' := [some (.retAddr 0), some (.ref x1), none, some (.int x3)]) rfl ?_
        exact l_L_law_b144 hk45 hq
      · refine jw_if_eq_f (tgt := 144) dL_law_123 (by decide) c5 ?_
        refine jw_aload_n dL_law_126 (o := (some x1)) rfl ?_
        obtain ⟨w7, h6, ew7, hq⟩ := jw_b2_spec hq
        refine jw_callS (As := [va_rf (some x1)]) (S := []) (v := some (.int w7)) dL_law_127 mt_L_oneByOne st_L_oneByOne lk_L_186 (c_L_oneByOne ew7) rfl (by decide) (Nat.le_of_ble_eq_true rfl) rfl ?_
        rcases jw_if hq with ⟨c8, hq⟩ | ⟨c8, hq⟩
        · refine jw_if_eq_t (tgt := 144) dL_law_130 (by decide) c8 ?_
          refine jw_forget [true, true, false, true] (L' := [some (.retAddr 0), some (.ref x1), none, some (.int x3)]) rfl ?_
          exact l_L_law_b144 hk45 hq
        · refine jw_if_eq_f (tgt := 144) dL_law_130 (by decide) c8 ?_
          refine jw_aload_n dL_law_133 (o := (some x1)) rfl ?_
          obtain ⟨w10, h9, ew10, hq⟩ := jw_b2_spec hq
          refine jw_callS (As := [va_rf (some x1)]) (S := []) (v := some (.int w10)) dL_law_134 mt_L_found st_L_found lk_L_189 (c_L_found ew10) rfl (by decide) (Nat.le_of_ble_eq_true rfl) rfl ?_
          rcases jw_if hq with ⟨c11, hq⟩ | ⟨c11, hq⟩
          · refine jw_if_eq_t (tgt := 144) dL_law_137 (by decide) c11 ?_
            refine jw_forget [true, true, false, true] (L' := [some (.retAddr 0), some (.ref x1), none, some (.int x3)]) rfl ?_
            exact l_L_law_b144 hk45 hq
          · refine jw_if_eq_f (tgt := 144) dL_law_137 (by decide) c11 ?_
            refine jw_forget [true, true, false, true] (L' := [some (.retAddr 0), some (.ref x1), none, some (.int x3)]) rfl ?_
            exact l_L_law_b140 hk45 hq

set_option maxRecDepth 100000 in
set_option maxHeartbeats 4000000 in
theorem l_L_law_b103 {Ls : Nat} {xs : Nat → Int32} {hi : jw_H} {k45 : jw_H → Nat → Int32 → Int32 → Option (Int32 × jw_H)} (hk45 : ∀ (h : jw_H) (x1 : Nat) (x2 : Int32) (x3 : Int32) (r : Int32) (h' : jw_H), k45 h x1 x2 x3 = some (r, h') → jw_E 15 (uL_law Ls xs) hi 45 [some (.retAddr 0), some (.ref x1), some (.int x2), some (.int x3)] [] h (.inl (some (.int r))) h') {h : jw_H} {x1 : Nat} {x3 : Int32} {r : Int32} {h' : jw_H} (hq : g_L_law_b103 Ls xs k45 h x1 x3 = some (r, h')) : jw_E 15 (uL_law Ls xs) hi 103 [some (.retAddr 0), some (.ref x1), none, some (.int x3)] [] h (.inl (some (.int r))) h' := by
  unfold g_L_law_b103 at hq
  refine jw_iconst dL_law_103 (v := (1 : Int32)) (by decide) ?_
  refine jw_goto (tgt := 108) dL_law_104 (by decide) ?_
  exact l_L_law_b108 hk45 hq

set_option maxRecDepth 100000 in
set_option maxHeartbeats 4000000 in
theorem l_L_law_b107 {Ls : Nat} {xs : Nat → Int32} {hi : jw_H} {k45 : jw_H → Nat → Int32 → Int32 → Option (Int32 × jw_H)} (hk45 : ∀ (h : jw_H) (x1 : Nat) (x2 : Int32) (x3 : Int32) (r : Int32) (h' : jw_H), k45 h x1 x2 x3 = some (r, h') → jw_E 15 (uL_law Ls xs) hi 45 [some (.retAddr 0), some (.ref x1), some (.int x2), some (.int x3)] [] h (.inl (some (.int r))) h') {h : jw_H} {x1 : Nat} {x3 : Int32} {r : Int32} {h' : jw_H} (hq : g_L_law_b107 Ls xs k45 h x1 x3 = some (r, h')) : jw_E 15 (uL_law Ls xs) hi 107 [some (.retAddr 0), some (.ref x1), none, some (.int x3)] [] h (.inl (some (.int r))) h' := by
  unfold g_L_law_b107 at hq
  refine jw_iconst dL_law_107 (v := (0 : Int32)) (by decide) ?_
  exact l_L_law_b108 hk45 hq

set_option maxRecDepth 100000 in
set_option maxHeartbeats 4000000 in
theorem l_L_law_b168 {Ls : Nat} {xs : Nat → Int32} {hi : jw_H} {h : jw_H} {t0 : Int32} {r : Int32} {h' : jw_H} (hq : g_L_law_b168 Ls xs h t0 = some (r, h')) : jw_E 15 (uL_law Ls xs) hi 168 [none, none, none, none] [.int t0] h (.inl (some (.int r))) h' := by
  unfold g_L_law_b168 at hq
  obtain ⟨v1, ev1, hq⟩ := Option.bind_eq_some_iff.mp hq
  cases hq
  exact jw_iret (ty := .boolean) dL_law_168 rfl (jw_rb_spec ev1)

set_option maxRecDepth 100000 in
set_option maxHeartbeats 4000000 in
theorem l_L_law_b167 {Ls : Nat} {xs : Nat → Int32} {hi : jw_H} {h : jw_H}  {r : Int32} {h' : jw_H} (hq : g_L_law_b167 Ls xs h  = some (r, h')) : jw_E 15 (uL_law Ls xs) hi 167 [none, none, none, none] [] h (.inl (some (.int r))) h' := by
  unfold g_L_law_b167 at hq
  refine jw_iconst dL_law_167 (v := (0 : Int32)) (by decide) ?_
  exact l_L_law_b168  hq

set_option maxRecDepth 100000 in
set_option maxHeartbeats 4000000 in
theorem l_L_law_b152 {Ls : Nat} {xs : Nat → Int32} {hi : jw_H} {h : jw_H} {x1 : Nat} {x2 : Int32} {r : Int32} {h' : jw_H} (hq : g_L_law_b152 Ls xs h x1 x2 = some (r, h')) : jw_E 15 (uL_law Ls xs) hi 152 [none, some (.ref x1), some (.int x2), none] [] h (.inl (some (.int r))) h' := by
  unfold g_L_law_b152 at hq
  refine jw_iload_n dL_law_152 rfl ?_
  rcases jw_if hq with ⟨c1, hq⟩ | ⟨c1, hq⟩
  · refine jw_if_eq_t (tgt := 167) dL_law_153 (by decide) c1 ?_
    refine jw_forget [true, false, false, true] (L' := [none, none, none, none]) rfl ?_
    exact l_L_law_b167  hq
  · refine jw_if_eq_f (tgt := 167) dL_law_153 (by decide) c1 ?_
    refine jw_aload_n dL_law_156 (o := (some x1)) rfl ?_
    obtain ⟨a2, ea2, hq⟩ := Option.bind_eq_some_iff.mp hq
    obtain ⟨eoa2, eta2⟩ := jw_rc_spec ea2
    obtain ⟨w4, h3, ew4, hq⟩ := jw_b2_spec hq
    refine jw_callV (As := []) (S := []) (a := a2) (v := some (.int w4)) dL_law_157 mt_X11_isSound in_X11_isSound se_X11_isSound lk_L_118 (c_X11_isSound ew4) eta2 (by decide) rfl rfl (by decide) (Nat.le_of_ble_eq_true rfl) (by cases eoa2; rfl) ?_
    rcases jw_if hq with ⟨c5, hq⟩ | ⟨c5, hq⟩
    · refine jw_if_eq_t (tgt := 167) dL_law_160 (by decide) c5 ?_
      refine jw_forget [true, false, false, true] (L' := [none, none, none, none]) rfl ?_
      exact l_L_law_b167  hq
    · refine jw_if_eq_f (tgt := 167) dL_law_160 (by decide) c5 ?_
      refine jw_iconst dL_law_163 (v := (1 : Int32)) (by decide) ?_
      refine jw_goto (tgt := 168) dL_law_164 (by decide) ?_
      refine jw_forget [true, false, false, true] (L' := [none, none, none, none]) rfl ?_
      exact l_L_law_b168  hq

set_option maxRecDepth 100000 in
set_option maxHeartbeats 4000000 in
theorem l_L_law_b45g {Ls : Nat} {xs : Nat → Int32} {hi : jw_H} {k45 : jw_H → Nat → Int32 → Int32 → Option (Int32 × jw_H)} (hk45 : ∀ (h : jw_H) (x1 : Nat) (x2 : Int32) (x3 : Int32) (r : Int32) (h' : jw_H), k45 h x1 x2 x3 = some (r, h') → jw_E 15 (uL_law Ls xs) hi 45 [some (.retAddr 0), some (.ref x1), some (.int x2), some (.int x3)] [] h (.inl (some (.int r))) h') {h : jw_H} {x1 : Nat} {x2 : Int32} {x3 : Int32} {r : Int32} {h' : jw_H} (hq : g_L_law_b45 Ls xs k45 h x1 x2 x3 = some (r, h')) : jw_E 15 (uL_law Ls xs) hi 45 [some (.retAddr 0), some (.ref x1), some (.int x2), some (.int x3)] [] h (.inl (some (.int r))) h' := by
  unfold g_L_law_b45 at hq
  refine jw_iload_n dL_law_45 rfl ?_
  refine jw_bipush dL_law_46 (v := (12 : Int32)) (by decide) ?_
  rcases jw_if hq with ⟨c1, hq⟩ | ⟨c1, hq⟩
  · refine jw_icmp_ge_t (tgt := 152) dL_law_48 (by decide) c1 ?_
    refine jw_forget [false, true, true, false] (L' := [none, some (.ref x1), some (.int x2), none]) rfl ?_
    exact l_L_law_b152  hq
  · refine jw_icmp_ge_f (tgt := 152) dL_law_48 (by decide) c1 ?_
    refine jw_iload_n dL_law_51 rfl ?_
    rcases jw_if hq with ⟨c2, hq⟩ | ⟨c2, hq⟩
    · refine jw_if_eq_t (tgt := 152) dL_law_52 (by decide) c2 ?_
      refine jw_forget [false, true, true, false] (L' := [none, some (.ref x1), some (.int x2), none]) rfl ?_
      exact l_L_law_b152  hq
    · refine jw_if_eq_f (tgt := 152) dL_law_52 (by decide) c2 ?_
      refine jw_aload_n dL_law_55 (o := (some x1)) rfl ?_
      refine jw_aload_nS dL_law_56 rfl ?_
      refine jw_iconst dL_law_57 (v := (2 : Int32)) (by decide) ?_
      refine jw_iload_n dL_law_58 rfl ?_
      refine jw_iadd dL_law_59 ?_
      obtain ⟨w4, h3, ew4, hq⟩ := jw_b2_spec hq
      refine jw_callSL (xs0 := xs) (As := [.retAddr 0, .int ((2 : Int32) + x3)]) (S := [.ref x1]) (v := some (.int w4)) rfl dL_law_60 mt_L_cell st_L_cell lk_L_168 (c_L_cell ew4) rfl (by decide) (Nat.le_of_ble_eq_true rfl) rfl ?_
      refine jw_bipush dL_law_63 (v := (19 : Int32)) (by decide) ?_
      obtain ⟨w6, h5, ew6, hq⟩ := jw_b2_spec hq
      refine jw_callS (As := [.int w4, .int (19 : Int32)]) (S := [.ref x1]) (v := some (.int w6)) dL_law_65 mt_L_low st_L_low lk_L_173 (c_L_low ew6) rfl (by decide) (Nat.le_of_ble_eq_true rfl) rfl ?_
      obtain ⟨w8, h7, ew8, hq⟩ := jw_b2_spec hq
      refine jw_callS (As := [va_rf (some x1), .int w6]) (S := []) (v := some (.int w8)) dL_law_68 mt_L_undone st_L_undone lk_L_179 (c_L_undone ew8) rfl (by decide) (Nat.le_of_ble_eq_true rfl) rfl ?_
      rcases jw_if hq with ⟨c9, hq⟩ | ⟨c9, hq⟩
      · refine jw_if_eq_t (tgt := 107) dL_law_71 (by decide) c9 ?_
        refine jw_forget [true, true, false, true] (L' := [some (.retAddr 0), some (.ref x1), none, some (.int x3)]) rfl ?_
        exact l_L_law_b107 hk45 hq
      · refine jw_if_eq_f (tgt := 107) dL_law_71 (by decide) c9 ?_
        refine jw_aload_n dL_law_74 (o := (some x1)) rfl ?_
        obtain ⟨a10, ea10, hq⟩ := Option.bind_eq_some_iff.mp hq
        obtain ⟨eoa10, eta10⟩ := jw_rc_spec ea10
        obtain ⟨w12, h11, ew12, hq⟩ := jw_b2_spec hq
        refine jw_callV (As := []) (S := []) (a := a10) (v := some (.int w12)) dL_law_75 mt_X11_lines in_X11_lines se_X11_lines lk_L_71 (c_X11_lines ew12) eta10 (by decide) rfl rfl (by decide) (Nat.le_of_ble_eq_true rfl) (by cases eoa10; rfl) ?_
        refine jw_iconst dL_law_78 (v := (2 : Int32)) (by decide) ?_
        rcases jw_if hq with ⟨c13, hq⟩ | ⟨c13, hq⟩
        · refine jw_icmp_gt_t (tgt := 103) dL_law_79 (by decide) c13 ?_
          refine jw_forget [true, true, false, true] (L' := [some (.retAddr 0), some (.ref x1), none, some (.int x3)]) rfl ?_
          exact l_L_law_b103 hk45 hq
        · refine jw_icmp_gt_f (tgt := 103) dL_law_79 (by decide) c13 ?_
          refine jw_aload_n dL_law_82 (o := (some x1)) rfl ?_
          refine jw_aload_nS dL_law_83 rfl ?_
          refine jw_bipush dL_law_84 (v := (20 : Int32)) (by decide) ?_
          refine jw_iload_n dL_law_86 rfl ?_
          refine jw_iadd dL_law_87 ?_
          obtain ⟨w15, h14, ew15, hq⟩ := jw_b2_spec hq
          refine jw_callSL (xs0 := xs) (As := [.retAddr 0, .int ((20 : Int32) + x3)]) (S := [.ref x1]) (v := some (.int w15)) rfl dL_law_88 mt_L_cell st_L_cell lk_L_168 (c_L_cell ew15) rfl (by decide) (Nat.le_of_ble_eq_true rfl) rfl ?_
          refine jw_ldc dL_law_91 cw_L_172 ?_
          obtain ⟨w17, h16, ew17, hq⟩ := jw_b2_spec hq
          refine jw_callS (As := [.int w15, .int (65536 : Int32)]) (S := [.ref x1]) (v := some (.int w17)) dL_law_93 mt_L_low st_L_low lk_L_173 (c_L_low ew17) rfl (by decide) (Nat.le_of_ble_eq_true rfl) rfl ?_
          refine jw_iconst dL_law_96 (v := (3 : Int32)) (by decide) ?_
          obtain ⟨a18, ea18, hq⟩ := Option.bind_eq_some_iff.mp hq
          obtain ⟨eoa18, eta18⟩ := jw_rc_spec ea18
          obtain ⟨ww20, h19, ew20, hq⟩ := jw_b2_spec hq
          rcases ww20 with w20 | Ew20
          · replace hq := jw_iw_l hq
            refine jw_callV (As := [.int w17, .int (3 : Int32)]) (S := []) (a := a18) (v := some (.int w20)) dL_law_97 mt_X11_sample in_X11_sample se_X11_sample lk_L_176 (c_X11_sample ew20) eta18 (by decide) rfl rfl (by decide) (Nat.le_of_ble_eq_true rfl) (by cases eoa18; rfl) ?_
            rcases jw_if hq with ⟨c21, hq⟩ | ⟨c21, hq⟩
            · refine jw_if_le_t (tgt := 107) dL_law_100 (by decide) c21 ?_
              refine jw_forget [true, true, false, true] (L' := [some (.retAddr 0), some (.ref x1), none, some (.int x3)]) rfl ?_
              exact l_L_law_b107 hk45 hq
            · refine jw_if_le_f (tgt := 107) dL_law_100 (by decide) c21 ?_
              refine jw_forget [true, true, false, true] (L' := [some (.retAddr 0), some (.ref x1), none, some (.int x3)]) rfl ?_
              exact l_L_law_b103 hk45 hq
          · exact nomatch hq

theorem l_L_law_b45 {Ls : Nat} {xs : Nat → Int32} {hi : jw_H} : ∀ (n : Nat) (h : jw_H) (x1 : Nat) (x2 : Int32) (x3 : Int32) (r : Int32) (h' : jw_H), f_L_law_b45 Ls xs n h x1 x2 x3 = some (r, h') → jw_E 15 (uL_law Ls xs) hi 45 [some (.retAddr 0), some (.ref x1), some (.int x2), some (.int x3)] [] h (.inl (some (.int r))) h' := by
  intro n
  induction n with
  | zero => intro h x1 x2 x3 r h' hq; exact nomatch hq
  | succ n ih => intro h x1 x2 x3 r h' hq; exact l_L_law_b45g ih hq

set_option maxRecDepth 100000 in
set_option maxHeartbeats 4000000 in
theorem l_L_law_b42 {Ls : Nat} {xs : Nat → Int32} {hi : jw_H} {h : jw_H} {x1 : Nat} {t0 : Int32} {r : Int32} {h' : jw_H} (hq : g_L_law_b42 Ls xs h x1 t0 = some (r, h')) : jw_E 15 (uL_law Ls xs) hi 42 [some (.retAddr 0), some (.ref x1), none, none] [.int t0] h (.inl (some (.int r))) h' := by
  unfold g_L_law_b42 at hq
  refine jw_istore_n (L' := [some (.retAddr 0), some (.ref x1), some (.int t0), none]) dL_law_42 (Nat.le_of_ble_eq_true rfl) rfl ?_
  refine jw_iconst dL_law_43 (v := (0 : Int32)) (by decide) ?_
  refine jw_istore_n (L' := [some (.retAddr 0), some (.ref x1), some (.int t0), some (.int (0 : Int32))]) dL_law_44 (Nat.le_of_ble_eq_true rfl) rfl ?_
  exact l_L_law_b45  jw_FU _ _ _ _ _ _ hq

set_option maxRecDepth 100000 in
set_option maxHeartbeats 4000000 in
theorem l_L_law {Ls : Nat} {xs : Nat → Int32} {hi : jw_H} {h : jw_H}  {r : Int32} {h' : jw_H} (hq : f_L_law Ls xs h  = some (r, h')) : jw_E 15 (uL_law Ls xs) hi 0 [some (.retAddr 0), none, none, none] [] h (.inl (some (.int r))) h' := by
  unfold f_L_law at hq
  obtain ⟨h1, eh1, hq⟩ := Option.bind_eq_some_iff.mp hq
  have eh1 := Option.some.inj eh1
  refine jw_mk (c := 11) dL_law_0 (by decide) cl_L_12 inst_11 ini_11 ?_
  rw [eh1]
  refine jw_dup dL_law_3 rfl ?_
  obtain ⟨w3, h2, ew3, hq⟩ := jw_b2_spec hq
  refine jw_callI (As := []) (S := [.ref (jw_n h)]) (a := (jw_n h)) (v := none) dL_law_4 mt_X11_init in_X11_init rfl lk_L_167 (c_X11_init ew3) rfl (by decide) (Nat.le_of_ble_eq_true rfl) rfl ?_
  refine jw_astore_n (o := (some (jw_n h))) (L' := [some (.retAddr 0), some (.ref (jw_n h)), none, none]) dL_law_7 (Nat.le_of_ble_eq_true rfl) rfl ?_
  refine jw_aload_n dL_law_8 (o := (some (jw_n h))) rfl ?_
  refine jw_aload_nS dL_law_9 rfl ?_
  refine jw_iconst dL_law_10 (v := (0 : Int32)) (by decide) ?_
  obtain ⟨w5, h4, ew5, hq⟩ := jw_b2_spec hq
  refine jw_callSL (xs0 := xs) (As := [.retAddr 0, .int (0 : Int32)]) (S := [.ref (jw_n h)]) (v := some (.int w5)) rfl dL_law_11 mt_L_cell st_L_cell lk_L_168 (c_L_cell ew5) rfl (by decide) (Nat.le_of_ble_eq_true rfl) rfl ?_
  refine jw_ldc dL_law_14 cw_L_172 ?_
  obtain ⟨w7, h6, ew7, hq⟩ := jw_b2_spec hq
  refine jw_callS (As := [.int w5, .int (65536 : Int32)]) (S := [.ref (jw_n h)]) (v := some (.int w7)) dL_law_16 mt_L_low st_L_low lk_L_173 (c_L_low ew7) rfl (by decide) (Nat.le_of_ble_eq_true rfl) rfl ?_
  refine jw_iconst dL_law_19 (v := (4 : Int32)) (by decide) ?_
  refine jw_aload_nS dL_law_20 rfl ?_
  refine jw_iconst dL_law_21 (v := (1 : Int32)) (by decide) ?_
  obtain ⟨w9, h8, ew9, hq⟩ := jw_b2_spec hq
  refine jw_callSL (xs0 := xs) (As := [.retAddr 0, .int (1 : Int32)]) (S := [.int (4 : Int32), .int w7, .ref (jw_n h)]) (v := some (.int w9)) rfl dL_law_22 mt_L_cell st_L_cell lk_L_168 (c_L_cell ew9) rfl (by decide) (Nat.le_of_ble_eq_true rfl) rfl ?_
  refine jw_bipush dL_law_25 (v := (6 : Int32)) (by decide) ?_
  obtain ⟨w11, h10, ew11, hq⟩ := jw_b2_spec hq
  refine jw_callS (As := [.int w9, .int (6 : Int32)]) (S := [.int (4 : Int32), .int w7, .ref (jw_n h)]) (v := some (.int w11)) dL_law_27 mt_L_low st_L_low lk_L_173 (c_L_low ew11) rfl (by decide) (Nat.le_of_ble_eq_true rfl) rfl ?_
  refine jw_iadd dL_law_30 ?_
  obtain ⟨a12, ea12, hq⟩ := Option.bind_eq_some_iff.mp hq
  obtain ⟨eoa12, eta12⟩ := jw_rc_spec ea12
  obtain ⟨ww14, h13, ew14, hq⟩ := jw_b2_spec hq
  rcases ww14 with w14 | Ew14
  · replace hq := jw_iw_l hq
    refine jw_callV (As := [.int w7, .int ((4 : Int32) + w11)]) (S := []) (a := a12) (v := some (.int w14)) dL_law_31 mt_X11_sample in_X11_sample se_X11_sample lk_L_176 (c_X11_sample ew14) eta12 (by decide) rfl rfl (by decide) (Nat.le_of_ble_eq_true rfl) (by cases eoa12; rfl) ?_
    rcases jw_if hq with ⟨c15, hq⟩ | ⟨c15, hq⟩
    · refine jw_if_le_t (tgt := 41) dL_law_34 (by decide) c15 ?_
      refine jw_iconst dL_law_41 (v := (0 : Int32)) (by decide) ?_
      exact l_L_law_b42  hq
    · refine jw_if_le_f (tgt := 41) dL_law_34 (by decide) c15 ?_
      refine jw_iconst dL_law_37 (v := (1 : Int32)) (by decide) ?_
      refine jw_goto (tgt := 42) dL_law_38 (by decide) ?_
      exact l_L_law_b42  hq
  · exact nomatch hq
