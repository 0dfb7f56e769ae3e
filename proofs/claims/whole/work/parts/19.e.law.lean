theorem qkl_544 : Cond.codeWith yL_cup cL_cup 5 (some .int) [(0, 10, 13, 13), (0, 10, 17, 15)] ∈ lw_gd := List.mem_filter.mpr ⟨List.mem_of_getElem? (i := 544) (by decide +kernel), by decide +kernel⟩
theorem qkl_645 : Cond.codeWith yL_lamp cL_lamp 5 (some .int) [(0, 10, 13, 13), (0, 10, 17, 15)] ∈ lw_gd := List.mem_filter.mpr ⟨List.mem_of_getElem? (i := 645) (by decide +kernel), by decide +kernel⟩
theorem qkl_652 : Cond.codeWith yL_cat cL_cat 5 (some .int) [(0, 10, 13, 13), (0, 10, 17, 15)] ∈ lw_gd := List.mem_filter.mpr ⟨List.mem_of_getElem? (i := 652) (by decide +kernel), by decide +kernel⟩
theorem qkl_659 : Cond.codeWith yL_take cL_take 4 (some .int) [(0, 9, 12, 27)] ∈ lw_gd := List.mem_filter.mpr ⟨List.mem_of_getElem? (i := 659) (by decide +kernel), by decide +kernel⟩
theorem qkl_703 : Cond.codeWith yL_cue cL_cue 5 (some .int) [(0, 10, 13, 27), (0, 10, 17, 13), (0, 10, 21, 15)] ∈ lw_gd := List.mem_filter.mpr ⟨List.mem_of_getElem? (i := 703) (by decide +kernel), by decide +kernel⟩
theorem qkl_712 : Cond.codeWith yL_set cL_set 4 (some .int) [(0, 9, 12, 13), (0, 9, 15, 15)] ∈ lw_gd := List.mem_filter.mpr ⟨List.mem_of_getElem? (i := 712) (by decide +kernel), by decide +kernel⟩
theorem qkl_725 : Cond.codeWith yL_add cL_add 4 (some .int) [(0, 9, 12, 13), (0, 9, 15, 15)] ∈ lw_gd := List.mem_filter.mpr ⟨List.mem_of_getElem? (i := 725) (by decide +kernel), by decide +kernel⟩
theorem qkl_732 : Cond.codeWith yL_perform cL_perform 3 (some .int) [(0, 8, 11, 15)] ∈ lw_gd := List.mem_filter.mpr ⟨List.mem_of_getElem? (i := 732) (by decide +kernel), by decide +kernel⟩
theorem qkl_740 : Cond.codeWith yL_propOf cL_propOf 5 (some .int) [(0, 10, 13, 27), (0, 10, 17, 13)] ∈ lw_gd := List.mem_filter.mpr ⟨List.mem_of_getElem? (i := 740) (by decide +kernel), by decide +kernel⟩
theorem qkl_752 : Cond.codeWith yL_programme cL_programme 4 (some .int) [(0, 9, 12, 48)] ∈ lw_gd := List.mem_filter.mpr ⟨List.mem_of_getElem? (i := 752) (by decide +kernel), by decide +kernel⟩
theorem qkl_777 : Cond.codeWith yL_on cL_on 6 (some .int) [(0, 12, 15, 13)] ∈ lw_gd := List.mem_filter.mpr ⟨List.mem_of_getElem? (i := 777) (by decide +kernel), by decide +kernel⟩
theorem qkl_785 : Cond.codeWith yL_wouldMark cL_wouldMark 4 (some .int) [(0, 9, 12, 13)] ∈ lw_gd := List.mem_filter.mpr ⟨List.mem_of_getElem? (i := 785) (by decide +kernel), by decide +kernel⟩
theorem qkl_795 : Cond.codeWith yL_wouldBreak cL_wouldBreak 5 (some .int) [(0, 10, 13, 13)] ∈ lw_gd := List.mem_filter.mpr ⟨List.mem_of_getElem? (i := 795) (by decide +kernel), by decide +kernel⟩
theorem qkl_802 : Cond.codeWith yL_leastBreaking cL_leastBreaking 3 (some .int) [(0, 8, 11, 48)] ∈ lw_gd := List.mem_filter.mpr ⟨List.mem_of_getElem? (i := 802) (by decide +kernel), by decide +kernel⟩
theorem qkl_810 : Cond.codeWith yL_shocksFor cL_shocksFor 4 (some .int) [(0, 9, 12, 27)] ∈ lw_gd := List.mem_filter.mpr ⟨List.mem_of_getElem? (i := 810) (by decide +kernel), by decide +kernel⟩
theorem qkl_817 : Cond.codeWith yL_isBroken cL_isBroken 4 (some .int) [(0, 16, 19, 27)] ∈ lw_gd := List.mem_filter.mpr ⟨List.mem_of_getElem? (i := 817) (by decide +kernel), by decide +kernel⟩
theorem qkl_824 : Cond.codeWith yL_cupAt cL_cupAt 4 (some .int) [(0, 9, 12, 48)] ∈ lw_gd := List.mem_filter.mpr ⟨List.mem_of_getElem? (i := 824) (by decide +kernel), by decide +kernel⟩
theorem qkl_851 : Cond.codeWith yL_lampAt cL_lampAt 4 (some .int) [(0, 9, 12, 48)] ∈ lw_gd := List.mem_filter.mpr ⟨List.mem_of_getElem? (i := 851) (by decide +kernel), by decide +kernel⟩
theorem qkl_858 : Cond.codeWith yL_catAt cL_catAt 4 (some .int) [(0, 9, 12, 48)] ∈ lw_gd := List.mem_filter.mpr ⟨List.mem_of_getElem? (i := 858) (by decide +kernel), by decide +kernel⟩
theorem qkl_865 : Cond.codeWith yL_onFloor cL_onFloor 5 (some .int) [(0, 10, 13, 13)] ∈ lw_gd := List.mem_filter.mpr ⟨List.mem_of_getElem? (i := 865) (by decide +kernel), by decide +kernel⟩
theorem qkl_873 : Cond.codeWith yL_line cL_line 4 (some .int) [(0, 9, 12, 27)] ∈ lw_gd := List.mem_filter.mpr ⟨List.mem_of_getElem? (i := 873) (by decide +kernel), by decide +kernel⟩
theorem qkl_884 : Cond.codeWith yL_character cL_character 4 (some .int) [(0, 9, 12, 27)] ∈ lw_gd := List.mem_filter.mpr ⟨List.mem_of_getElem? (i := 884) (by decide +kernel), by decide +kernel⟩
theorem qkl_896 : Cond.codeWith yL_append cL_append 4 (some .int) [(0, 9, 12, 94)] ∈ lw_gd := List.mem_filter.mpr ⟨List.mem_of_getElem? (i := 896) (by decide +kernel), by decide +kernel⟩
theorem qkl_924 : Cond.codeWith yL_run cL_run 3 (some .int) [(0, 8, 11, 13), (0, 8, 14, 15)] ∈ lw_gd := List.mem_filter.mpr ⟨List.mem_of_getElem? (i := 924) (by decide +kernel), by decide +kernel⟩
theorem qkl_1043 : Cond.codeWith yL_refusal cL_refusal 4 (some .int) [(0, 9, 12, 48)] ∈ lw_gd := List.mem_filter.mpr ⟨List.mem_of_getElem? (i := 1043) (by decide +kernel), by decide +kernel⟩
theorem qkl_1051 : Cond.codeWith yL_account cL_account 4 (some .int) [(0, 9, 12, 13)] ∈ lw_gd := List.mem_filter.mpr ⟨List.mem_of_getElem? (i := 1051) (by decide +kernel), by decide +kernel⟩
theorem qkl_1064 : Cond.codeWith yL_meanGrade cL_meanGrade 3 (some .int) [(0, 7, 10, 110)] ∈ lw_gd := List.mem_filter.mpr ⟨List.mem_of_getElem? (i := 1064) (by decide +kernel), by decide +kernel⟩
theorem qkl_1092 : Cond.codeWith yL_brokenShare cL_brokenShare 3 (some .int) [(0, 8, 11, 110)] ∈ lw_gd := List.mem_filter.mpr ⟨List.mem_of_getElem? (i := 1092) (by decide +kernel), by decide +kernel⟩
theorem qkl_1100 : Cond.codeWith yL_undo cL_undo 3 (some .int) [(0, 8, 11, 94)] ∈ lw_gd := List.mem_filter.mpr ⟨List.mem_of_getElem? (i := 1100) (by decide +kernel), by decide +kernel⟩
theorem qkl_1113 : Cond.codeWith yL_restore cL_restore 3 (some .int) [(0, 8, 11, 94)] ∈ lw_gd := List.mem_filter.mpr ⟨List.mem_of_getElem? (i := 1113) (by decide +kernel), by decide +kernel⟩
