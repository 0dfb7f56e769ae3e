theorem qkl_18 : Cond.initialized RL ∈ lw_gd := List.mem_filter.mpr ⟨List.mem_of_getElem? (i := 18) (by decide +kernel), by decide +kernel⟩
theorem qkl_47 : Cond.methodLink RL 179 yL_drawn ∈ lw_gd := List.mem_filter.mpr ⟨List.mem_of_getElem? (i := 47) (by decide +kernel), by decide +kernel⟩
theorem qkl_48 : Cond.static yL_drawn ∈ lw_gd := List.mem_filter.mpr ⟨List.mem_of_getElem? (i := 48) (by decide +kernel), by decide +kernel⟩
theorem qkl_49 : Cond.code yL_drawn cL_drawn 9 (some (.object "QuakeRehearsal")) ∈ lw_gd := List.mem_filter.mpr ⟨List.mem_of_getElem? (i := 49) (by decide +kernel), by decide +kernel⟩
theorem qkl_50 : Cond.classLink RL 9 "QuakeRehearsal" ∈ lw_gd := List.mem_filter.mpr ⟨List.mem_of_getElem? (i := 50) (by decide +kernel), by decide +kernel⟩
theorem qkl_52 : Cond.methodLink RL 124 yX5_init ∈ lw_gd := List.mem_filter.mpr ⟨List.mem_of_getElem? (i := 52) (by decide +kernel), by decide +kernel⟩
theorem qkl_260 : Cond.methodLink RL 125 yL_cell ∈ lw_gd := List.mem_filter.mpr ⟨List.mem_of_getElem? (i := 260) (by decide +kernel), by decide +kernel⟩
theorem qkl_261 : Cond.static yL_cell ∈ lw_gd := List.mem_filter.mpr ⟨List.mem_of_getElem? (i := 261) (by decide +kernel), by decide +kernel⟩
theorem qkl_262 : Cond.code yL_cell cL_cell 2 (some .int) ∈ lw_gd := List.mem_filter.mpr ⟨List.mem_of_getElem? (i := 262) (by decide +kernel), by decide +kernel⟩
theorem qkl_263 : Cond.constant RL 7 (40503) ∈ lw_gd := List.mem_filter.mpr ⟨List.mem_of_getElem? (i := 263) (by decide +kernel), by decide +kernel⟩
theorem qkl_264 : Cond.methodLink RL 129 yL_cup ∈ lw_gd := List.mem_filter.mpr ⟨List.mem_of_getElem? (i := 264) (by decide +kernel), by decide +kernel⟩
theorem qkl_265 : Cond.static yL_cup ∈ lw_gd := List.mem_filter.mpr ⟨List.mem_of_getElem? (i := 265) (by decide +kernel), by decide +kernel⟩
theorem qkl_266 : Cond.codeWith yL_cup cL_cup 4 (some .int) [(0, 6, 7, 14), (0, 6, 10, 16)] ∈ lw_gd := List.mem_filter.mpr ⟨List.mem_of_getElem? (i := 266) (by decide +kernel), by decide +kernel⟩
theorem qkl_267 : Cond.classLink RL 14 "java/lang/IllegalArgumentException" ∈ lw_gd := List.mem_filter.mpr ⟨List.mem_of_getElem? (i := 267) (by decide +kernel), by decide +kernel⟩
theorem qkl_268 : Cond.classLink RL 16 "java/lang/UnsupportedOperationException" ∈ lw_gd := List.mem_filter.mpr ⟨List.mem_of_getElem? (i := 268) (by decide +kernel), by decide +kernel⟩
theorem qkl_269 : Cond.methodLink RL 8 yX5_cup ∈ lw_gd := List.mem_filter.mpr ⟨List.mem_of_getElem? (i := 269) (by decide +kernel), by decide +kernel⟩
theorem qkl_521 : Cond.methodLink RL 132 yL_lamp ∈ lw_gd := List.mem_filter.mpr ⟨List.mem_of_getElem? (i := 521) (by decide +kernel), by decide +kernel⟩
theorem qkl_522 : Cond.static yL_lamp ∈ lw_gd := List.mem_filter.mpr ⟨List.mem_of_getElem? (i := 522) (by decide +kernel), by decide +kernel⟩
theorem qkl_523 : Cond.codeWith yL_lamp cL_lamp 4 (some .int) [(0, 6, 7, 14), (0, 6, 10, 16)] ∈ lw_gd := List.mem_filter.mpr ⟨List.mem_of_getElem? (i := 523) (by decide +kernel), by decide +kernel⟩
theorem qkl_524 : Cond.methodLink RL 18 yX5_lamp ∈ lw_gd := List.mem_filter.mpr ⟨List.mem_of_getElem? (i := 524) (by decide +kernel), by decide +kernel⟩
theorem qkl_528 : Cond.methodLink RL 134 yL_cat ∈ lw_gd := List.mem_filter.mpr ⟨List.mem_of_getElem? (i := 528) (by decide +kernel), by decide +kernel⟩
theorem qkl_529 : Cond.static yL_cat ∈ lw_gd := List.mem_filter.mpr ⟨List.mem_of_getElem? (i := 529) (by decide +kernel), by decide +kernel⟩
theorem qkl_530 : Cond.codeWith yL_cat cL_cat 4 (some .int) [(0, 6, 7, 14), (0, 6, 10, 16)] ∈ lw_gd := List.mem_filter.mpr ⟨List.mem_of_getElem? (i := 530) (by decide +kernel), by decide +kernel⟩
theorem qkl_531 : Cond.methodLink RL 21 yX5_cat ∈ lw_gd := List.mem_filter.mpr ⟨List.mem_of_getElem? (i := 531) (by decide +kernel), by decide +kernel⟩
theorem qkl_535 : Cond.methodLink RL 136 yX5_account ∈ lw_gd := List.mem_filter.mpr ⟨List.mem_of_getElem? (i := 535) (by decide +kernel), by decide +kernel⟩
theorem qkl_545 : Cond.methodLink RL 139 yL_refusal ∈ lw_gd := List.mem_filter.mpr ⟨List.mem_of_getElem? (i := 545) (by decide +kernel), by decide +kernel⟩
theorem qkl_546 : Cond.static yL_refusal ∈ lw_gd := List.mem_filter.mpr ⟨List.mem_of_getElem? (i := 546) (by decide +kernel), by decide +kernel⟩
theorem qkl_547 : Cond.codeWith yL_refusal cL_refusal 3 (some .int) [(0, 5, 6, 49)] ∈ lw_gd := List.mem_filter.mpr ⟨List.mem_of_getElem? (i := 547) (by decide +kernel), by decide +kernel⟩
theorem qkl_548 : Cond.classLink RL 49 "java/util/NoSuchElementException" ∈ lw_gd := List.mem_filter.mpr ⟨List.mem_of_getElem? (i := 548) (by decide +kernel), by decide +kernel⟩
theorem qkl_549 : Cond.methodLink RL 100 yX5_refusal ∈ lw_gd := List.mem_filter.mpr ⟨List.mem_of_getElem? (i := 549) (by decide +kernel), by decide +kernel⟩
theorem qkl_569 : Cond.methodLink RL 142 yL_cue ∈ lw_gd := List.mem_filter.mpr ⟨List.mem_of_getElem? (i := 569) (by decide +kernel), by decide +kernel⟩
theorem qkl_570 : Cond.static yL_cue ∈ lw_gd := List.mem_filter.mpr ⟨List.mem_of_getElem? (i := 570) (by decide +kernel), by decide +kernel⟩
theorem qkl_571 : Cond.codeWith yL_cue cL_cue 4 (some .int) [(0, 6, 7, 28), (0, 6, 10, 14), (0, 6, 14, 16)] ∈ lw_gd := List.mem_filter.mpr ⟨List.mem_of_getElem? (i := 571) (by decide +kernel), by decide +kernel⟩
theorem qkl_572 : Cond.classLink RL 28 "java/lang/IndexOutOfBoundsException" ∈ lw_gd := List.mem_filter.mpr ⟨List.mem_of_getElem? (i := 572) (by decide +kernel), by decide +kernel⟩
theorem qkl_596 : Cond.methodLink RL 30 yX5_cue ∈ lw_gd := List.mem_filter.mpr ⟨List.mem_of_getElem? (i := 596) (by decide +kernel), by decide +kernel⟩
theorem qkl_615 : Cond.methodLink RL 144 yL_set ∈ lw_gd := List.mem_filter.mpr ⟨List.mem_of_getElem? (i := 615) (by decide +kernel), by decide +kernel⟩
theorem qkl_616 : Cond.static yL_set ∈ lw_gd := List.mem_filter.mpr ⟨List.mem_of_getElem? (i := 616) (by decide +kernel), by decide +kernel⟩
theorem qkl_617 : Cond.codeWith yL_set cL_set 3 (some .int) [(0, 5, 6, 14), (0, 5, 9, 16)] ∈ lw_gd := List.mem_filter.mpr ⟨List.mem_of_getElem? (i := 617) (by decide +kernel), by decide +kernel⟩
theorem qkl_618 : Cond.methodLink RL 33 yX5_set ∈ lw_gd := List.mem_filter.mpr ⟨List.mem_of_getElem? (i := 618) (by decide +kernel), by decide +kernel⟩
theorem qkl_628 : Cond.methodLink RL 147 yX5_shock ∈ lw_gd := List.mem_filter.mpr ⟨List.mem_of_getElem? (i := 628) (by decide +kernel), by decide +kernel⟩
theorem qkl_632 : Cond.methodLink RL 150 yL_add ∈ lw_gd := List.mem_filter.mpr ⟨List.mem_of_getElem? (i := 632) (by decide +kernel), by decide +kernel⟩
theorem qkl_633 : Cond.static yL_add ∈ lw_gd := List.mem_filter.mpr ⟨List.mem_of_getElem? (i := 633) (by decide +kernel), by decide +kernel⟩
theorem qkl_634 : Cond.codeWith yL_add cL_add 3 (some .int) [(0, 5, 6, 14), (0, 5, 9, 16)] ∈ lw_gd := List.mem_filter.mpr ⟨List.mem_of_getElem? (i := 634) (by decide +kernel), by decide +kernel⟩
theorem qkl_635 : Cond.methodLink RL 36 yX5_add ∈ lw_gd := List.mem_filter.mpr ⟨List.mem_of_getElem? (i := 635) (by decide +kernel), by decide +kernel⟩
theorem qkl_639 : Cond.methodLink RL 183 yL_shaken ∈ lw_gd := List.mem_filter.mpr ⟨List.mem_of_getElem? (i := 639) (by decide +kernel), by decide +kernel⟩
theorem qkl_640 : Cond.static yL_shaken ∈ lw_gd := List.mem_filter.mpr ⟨List.mem_of_getElem? (i := 640) (by decide +kernel), by decide +kernel⟩
theorem qkl_641 : Cond.code yL_shaken cL_shaken 10 (some .boolean) ∈ lw_gd := List.mem_filter.mpr ⟨List.mem_of_getElem? (i := 641) (by decide +kernel), by decide +kernel⟩
theorem qkl_642 : Cond.methodLink RL 197 yL_props ∈ lw_gd := List.mem_filter.mpr ⟨List.mem_of_getElem? (i := 642) (by decide +kernel), by decide +kernel⟩
theorem qkl_643 : Cond.static yL_props ∈ lw_gd := List.mem_filter.mpr ⟨List.mem_of_getElem? (i := 643) (by decide +kernel), by decide +kernel⟩
theorem qkl_644 : Cond.code yL_props cL_props 4 (some (.array (.array .int))) ∈ lw_gd := List.mem_filter.mpr ⟨List.mem_of_getElem? (i := 644) (by decide +kernel), by decide +kernel⟩
theorem qkl_645 : Cond.classLink RL 152 "[[I" ∈ lw_gd := List.mem_filter.mpr ⟨List.mem_of_getElem? (i := 645) (by decide +kernel), by decide +kernel⟩
theorem qkl_647 : Cond.methodLink RL 154 yL_of ∈ lw_gd := List.mem_filter.mpr ⟨List.mem_of_getElem? (i := 647) (by decide +kernel), by decide +kernel⟩
theorem qkl_648 : Cond.static yL_of ∈ lw_gd := List.mem_filter.mpr ⟨List.mem_of_getElem? (i := 648) (by decide +kernel), by decide +kernel⟩
theorem qkl_649 : Cond.codeWith yL_of cL_of 4 (some .int) [(0, 6, 7, 28), (0, 6, 11, 14)] ∈ lw_gd := List.mem_filter.mpr ⟨List.mem_of_getElem? (i := 649) (by decide +kernel), by decide +kernel⟩
theorem qkl_650 : Cond.methodLink RL 43 yX5_propOf ∈ lw_gd := List.mem_filter.mpr ⟨List.mem_of_getElem? (i := 650) (by decide +kernel), by decide +kernel⟩
theorem qkl_659 : Cond.methodLink RL 162 yL_there ∈ lw_gd := List.mem_filter.mpr ⟨List.mem_of_getElem? (i := 659) (by decide +kernel), by decide +kernel⟩
theorem qkl_660 : Cond.static yL_there ∈ lw_gd := List.mem_filter.mpr ⟨List.mem_of_getElem? (i := 660) (by decide +kernel), by decide +kernel⟩
theorem qkl_661 : Cond.code yL_there cL_there 8 (some .int) ∈ lw_gd := List.mem_filter.mpr ⟨List.mem_of_getElem? (i := 661) (by decide +kernel), by decide +kernel⟩
theorem qkl_662 : Cond.methodLink RL 157 ⟨"java/lang/Math", "max", "(II)I"⟩ ∈ lw_gd := List.mem_filter.mpr ⟨List.mem_of_getElem? (i := 662) (by decide +kernel), by decide +kernel⟩
theorem qkl_665 : Cond.methodLink RL 201 yL_on ∈ lw_gd := List.mem_filter.mpr ⟨List.mem_of_getElem? (i := 665) (by decide +kernel), by decide +kernel⟩
theorem qkl_666 : Cond.static yL_on ∈ lw_gd := List.mem_filter.mpr ⟨List.mem_of_getElem? (i := 666) (by decide +kernel), by decide +kernel⟩
theorem qkl_667 : Cond.codeWith yL_on cL_on 5 (some .int) [(0, 7, 8, 14)] ∈ lw_gd := List.mem_filter.mpr ⟨List.mem_of_getElem? (i := 667) (by decide +kernel), by decide +kernel⟩
theorem qkl_668 : Cond.methodLink RL 51 yX5_on ∈ lw_gd := List.mem_filter.mpr ⟨List.mem_of_getElem? (i := 668) (by decide +kernel), by decide +kernel⟩
theorem qkl_682 : Cond.methodLink RL 175 yL_shocks ∈ lw_gd := List.mem_filter.mpr ⟨List.mem_of_getElem? (i := 682) (by decide +kernel), by decide +kernel⟩
theorem qkl_683 : Cond.static yL_shocks ∈ lw_gd := List.mem_filter.mpr ⟨List.mem_of_getElem? (i := 683) (by decide +kernel), by decide +kernel⟩
theorem qkl_684 : Cond.code yL_shocks cL_shocks 10 (some (.array .int)) ∈ lw_gd := List.mem_filter.mpr ⟨List.mem_of_getElem? (i := 684) (by decide +kernel), by decide +kernel⟩
theorem qkl_685 : Cond.methodLink RL 166 ⟨"java/lang/Math", "abs", "(I)I"⟩ ∈ lw_gd := List.mem_filter.mpr ⟨List.mem_of_getElem? (i := 685) (by decide +kernel), by decide +kernel⟩
theorem qkl_686 : Cond.methodLink RL 204 yL_wouldMark ∈ lw_gd := List.mem_filter.mpr ⟨List.mem_of_getElem? (i := 686) (by decide +kernel), by decide +kernel⟩
theorem qkl_687 : Cond.static yL_wouldMark ∈ lw_gd := List.mem_filter.mpr ⟨List.mem_of_getElem? (i := 687) (by decide +kernel), by decide +kernel⟩
theorem qkl_688 : Cond.codeWith yL_wouldMark cL_wouldMark 3 (some .int) [(0, 5, 6, 14)] ∈ lw_gd := List.mem_filter.mpr ⟨List.mem_of_getElem? (i := 688) (by decide +kernel), by decide +kernel⟩
theorem qkl_689 : Cond.methodLink RL 55 yX5_wouldMark ∈ lw_gd := List.mem_filter.mpr ⟨List.mem_of_getElem? (i := 689) (by decide +kernel), by decide +kernel⟩
theorem qkl_701 : Cond.methodLink RL 206 yL_wouldBreak ∈ lw_gd := List.mem_filter.mpr ⟨List.mem_of_getElem? (i := 701) (by decide +kernel), by decide +kernel⟩
theorem qkl_702 : Cond.static yL_wouldBreak ∈ lw_gd := List.mem_filter.mpr ⟨List.mem_of_getElem? (i := 702) (by decide +kernel), by decide +kernel⟩
theorem qkl_703 : Cond.codeWith yL_wouldBreak cL_wouldBreak 4 (some .int) [(0, 6, 7, 14)] ∈ lw_gd := List.mem_filter.mpr ⟨List.mem_of_getElem? (i := 703) (by decide +kernel), by decide +kernel⟩
theorem qkl_704 : Cond.methodLink RL 58 yX5_wouldBreak ∈ lw_gd := List.mem_filter.mpr ⟨List.mem_of_getElem? (i := 704) (by decide +kernel), by decide +kernel⟩
theorem qkl_721 : Cond.methodLink RL 209 yL_shocksFor ∈ lw_gd := List.mem_filter.mpr ⟨List.mem_of_getElem? (i := 721) (by decide +kernel), by decide +kernel⟩
theorem qkl_722 : Cond.static yL_shocksFor ∈ lw_gd := List.mem_filter.mpr ⟨List.mem_of_getElem? (i := 722) (by decide +kernel), by decide +kernel⟩
theorem qkl_723 : Cond.codeWith yL_shocksFor cL_shocksFor 3 (some .int) [(0, 5, 6, 28)] ∈ lw_gd := List.mem_filter.mpr ⟨List.mem_of_getElem? (i := 723) (by decide +kernel), by decide +kernel⟩
theorem qkl_724 : Cond.methodLink RL 65 yX5_shocksFor ∈ lw_gd := List.mem_filter.mpr ⟨List.mem_of_getElem? (i := 724) (by decide +kernel), by decide +kernel⟩
theorem qkl_728 : Cond.methodLink RL 211 yX5_best ∈ lw_gd := List.mem_filter.mpr ⟨List.mem_of_getElem? (i := 728) (by decide +kernel), by decide +kernel⟩
theorem qkl_732 : Cond.methodLink RL 214 yL_leastBreaking ∈ lw_gd := List.mem_filter.mpr ⟨List.mem_of_getElem? (i := 732) (by decide +kernel), by decide +kernel⟩
theorem qkl_733 : Cond.static yL_leastBreaking ∈ lw_gd := List.mem_filter.mpr ⟨List.mem_of_getElem? (i := 733) (by decide +kernel), by decide +kernel⟩
theorem qkl_734 : Cond.codeWith yL_leastBreaking cL_leastBreaking 2 (some .int) [(0, 4, 5, 49)] ∈ lw_gd := List.mem_filter.mpr ⟨List.mem_of_getElem? (i := 734) (by decide +kernel), by decide +kernel⟩
theorem qkl_735 : Cond.methodLink RL 62 yX5_leastBreaking ∈ lw_gd := List.mem_filter.mpr ⟨List.mem_of_getElem? (i := 735) (by decide +kernel), by decide +kernel⟩
theorem qkl_740 : Cond.methodLink RL 216 yX5_programmeBreaks ∈ lw_gd := List.mem_filter.mpr ⟨List.mem_of_getElem? (i := 740) (by decide +kernel), by decide +kernel⟩
theorem qkl_744 : Cond.methodLink RL 219 yL_performs ∈ lw_gd := List.mem_filter.mpr ⟨List.mem_of_getElem? (i := 744) (by decide +kernel), by decide +kernel⟩
theorem qkl_745 : Cond.static yL_performs ∈ lw_gd := List.mem_filter.mpr ⟨List.mem_of_getElem? (i := 745) (by decide +kernel), by decide +kernel⟩
theorem qkl_746 : Cond.code yL_performs cL_performs 8 (some (.array .int)) ∈ lw_gd := List.mem_filter.mpr ⟨List.mem_of_getElem? (i := 746) (by decide +kernel), by decide +kernel⟩
theorem qkl_747 : Cond.methodLink RL 169 yL_many ∈ lw_gd := List.mem_filter.mpr ⟨List.mem_of_getElem? (i := 747) (by decide +kernel), by decide +kernel⟩
theorem qkl_748 : Cond.static yL_many ∈ lw_gd := List.mem_filter.mpr ⟨List.mem_of_getElem? (i := 748) (by decide +kernel), by decide +kernel⟩
theorem qkl_749 : Cond.code yL_many cL_many 7 (some .int) ∈ lw_gd := List.mem_filter.mpr ⟨List.mem_of_getElem? (i := 749) (by decide +kernel), by decide +kernel⟩
theorem qkl_750 : Cond.methodLink RL 173 yL_programme ∈ lw_gd := List.mem_filter.mpr ⟨List.mem_of_getElem? (i := 750) (by decide +kernel), by decide +kernel⟩
theorem qkl_751 : Cond.static yL_programme ∈ lw_gd := List.mem_filter.mpr ⟨List.mem_of_getElem? (i := 751) (by decide +kernel), by decide +kernel⟩
theorem qkl_752 : Cond.codeWith yL_programme cL_programme 3 (some .int) [(0, 5, 6, 49)] ∈ lw_gd := List.mem_filter.mpr ⟨List.mem_of_getElem? (i := 752) (by decide +kernel), by decide +kernel⟩
theorem qkl_753 : Cond.methodLink RL 46 yX5_programme ∈ lw_gd := List.mem_filter.mpr ⟨List.mem_of_getElem? (i := 753) (by decide +kernel), by decide +kernel⟩
theorem qkl_759 : Cond.methodLink RL 223 yX5_isWell ∈ lw_gd := List.mem_filter.mpr ⟨List.mem_of_getElem? (i := 759) (by decide +kernel), by decide +kernel⟩
theorem qkl_779 : Cond.methodLink RL 187 yL_ranks ∈ lw_gd := List.mem_filter.mpr ⟨List.mem_of_getElem? (i := 779) (by decide +kernel), by decide +kernel⟩
theorem qkl_780 : Cond.static yL_ranks ∈ lw_gd := List.mem_filter.mpr ⟨List.mem_of_getElem? (i := 780) (by decide +kernel), by decide +kernel⟩
set_option maxRecDepth 1000000 in
set_option maxHeartbeats 4000000 in
theorem qkl_781 : Cond.code yL_ranks cL_ranks 13 (some .boolean) ∈ lw_gd := List.mem_filter.mpr ⟨List.mem_of_getElem? (i := 781) rfl, by decide +kernel⟩
theorem qkl_782 : Cond.methodLink RL 227 yL_cupAt ∈ lw_gd := List.mem_filter.mpr ⟨List.mem_of_getElem? (i := 782) (by decide +kernel), by decide +kernel⟩
theorem qkl_783 : Cond.static yL_cupAt ∈ lw_gd := List.mem_filter.mpr ⟨List.mem_of_getElem? (i := 783) (by decide +kernel), by decide +kernel⟩
theorem qkl_784 : Cond.codeWith yL_cupAt cL_cupAt 3 (some .int) [(0, 5, 6, 49)] ∈ lw_gd := List.mem_filter.mpr ⟨List.mem_of_getElem? (i := 784) (by decide +kernel), by decide +kernel⟩
theorem qkl_785 : Cond.methodLink RL 72 yX5_cupAt ∈ lw_gd := List.mem_filter.mpr ⟨List.mem_of_getElem? (i := 785) (by decide +kernel), by decide +kernel⟩
theorem qkl_809 : Cond.methodLink RL 229 yL_lampAt ∈ lw_gd := List.mem_filter.mpr ⟨List.mem_of_getElem? (i := 809) (by decide +kernel), by decide +kernel⟩
theorem qkl_810 : Cond.static yL_lampAt ∈ lw_gd := List.mem_filter.mpr ⟨List.mem_of_getElem? (i := 810) (by decide +kernel), by decide +kernel⟩
theorem qkl_811 : Cond.codeWith yL_lampAt cL_lampAt 3 (some .int) [(0, 5, 6, 49)] ∈ lw_gd := List.mem_filter.mpr ⟨List.mem_of_getElem? (i := 811) (by decide +kernel), by decide +kernel⟩
theorem qkl_812 : Cond.methodLink RL 75 yX5_lampAt ∈ lw_gd := List.mem_filter.mpr ⟨List.mem_of_getElem? (i := 812) (by decide +kernel), by decide +kernel⟩
theorem qkl_816 : Cond.methodLink RL 231 yL_catAt ∈ lw_gd := List.mem_filter.mpr ⟨List.mem_of_getElem? (i := 816) (by decide +kernel), by decide +kernel⟩
theorem qkl_817 : Cond.static yL_catAt ∈ lw_gd := List.mem_filter.mpr ⟨List.mem_of_getElem? (i := 817) (by decide +kernel), by decide +kernel⟩
theorem qkl_818 : Cond.codeWith yL_catAt cL_catAt 3 (some .int) [(0, 5, 6, 49)] ∈ lw_gd := List.mem_filter.mpr ⟨List.mem_of_getElem? (i := 818) (by decide +kernel), by decide +kernel⟩
theorem qkl_819 : Cond.methodLink RL 78 yX5_catAt ∈ lw_gd := List.mem_filter.mpr ⟨List.mem_of_getElem? (i := 819) (by decide +kernel), by decide +kernel⟩
theorem qkl_823 : Cond.methodLink RL 233 yL_isBroken ∈ lw_gd := List.mem_filter.mpr ⟨List.mem_of_getElem? (i := 823) (by decide +kernel), by decide +kernel⟩
theorem qkl_824 : Cond.static yL_isBroken ∈ lw_gd := List.mem_filter.mpr ⟨List.mem_of_getElem? (i := 824) (by decide +kernel), by decide +kernel⟩
theorem qkl_825 : Cond.codeWith yL_isBroken cL_isBroken 3 (some .int) [(0, 13, 14, 28)] ∈ lw_gd := List.mem_filter.mpr ⟨List.mem_of_getElem? (i := 825) (by decide +kernel), by decide +kernel⟩
theorem qkl_826 : Cond.methodLink RL 68 yX5_isBroken ∈ lw_gd := List.mem_filter.mpr ⟨List.mem_of_getElem? (i := 826) (by decide +kernel), by decide +kernel⟩
theorem qkl_830 : Cond.methodLink RL 235 yL_onFloor ∈ lw_gd := List.mem_filter.mpr ⟨List.mem_of_getElem? (i := 830) (by decide +kernel), by decide +kernel⟩
theorem qkl_831 : Cond.static yL_onFloor ∈ lw_gd := List.mem_filter.mpr ⟨List.mem_of_getElem? (i := 831) (by decide +kernel), by decide +kernel⟩
theorem qkl_832 : Cond.codeWith yL_onFloor cL_onFloor 4 (some .int) [(0, 6, 7, 14)] ∈ lw_gd := List.mem_filter.mpr ⟨List.mem_of_getElem? (i := 832) (by decide +kernel), by decide +kernel⟩
theorem qkl_833 : Cond.methodLink RL 81 yX5_onFloor ∈ lw_gd := List.mem_filter.mpr ⟨List.mem_of_getElem? (i := 833) (by decide +kernel), by decide +kernel⟩
theorem qkl_838 : Cond.methodLink RL 237 yX5_meanGrade ∈ lw_gd := List.mem_filter.mpr ⟨List.mem_of_getElem? (i := 838) (by decide +kernel), by decide +kernel⟩
theorem qkl_862 : Cond.methodLink RL 241 yX5_brokenShare ∈ lw_gd := List.mem_filter.mpr ⟨List.mem_of_getElem? (i := 862) (by decide +kernel), by decide +kernel⟩
theorem qkl_867 : Cond.methodLink RL 190 yL_lines ∈ lw_gd := List.mem_filter.mpr ⟨List.mem_of_getElem? (i := 867) (by decide +kernel), by decide +kernel⟩
theorem qkl_868 : Cond.static yL_lines ∈ lw_gd := List.mem_filter.mpr ⟨List.mem_of_getElem? (i := 868) (by decide +kernel), by decide +kernel⟩
theorem qkl_869 : Cond.code yL_lines cL_lines 6 (some .boolean) ∈ lw_gd := List.mem_filter.mpr ⟨List.mem_of_getElem? (i := 869) (by decide +kernel), by decide +kernel⟩
theorem qkl_870 : Cond.classLink RL 247 "java/lang/StringBuilder" ∈ lw_gd := List.mem_filter.mpr ⟨List.mem_of_getElem? (i := 870) (by decide +kernel), by decide +kernel⟩
theorem qkl_1150 : Cond.methodLink RL 275 yL_line ∈ lw_gd := List.mem_filter.mpr ⟨List.mem_of_getElem? (i := 1150) (by decide +kernel), by decide +kernel⟩
theorem qkl_1151 : Cond.static yL_line ∈ lw_gd := List.mem_filter.mpr ⟨List.mem_of_getElem? (i := 1151) (by decide +kernel), by decide +kernel⟩
theorem qkl_1152 : Cond.codeWith yL_line cL_line 3 (some .int) [(0, 5, 6, 28)] ∈ lw_gd := List.mem_filter.mpr ⟨List.mem_of_getElem? (i := 1152) (by decide +kernel), by decide +kernel⟩
theorem qkl_1153 : Cond.methodLink RL 84 yX5_line ∈ lw_gd := List.mem_filter.mpr ⟨List.mem_of_getElem? (i := 1153) (by decide +kernel), by decide +kernel⟩
theorem qkl_1169 : Cond.methodLink RL 277 yL_spells ∈ lw_gd := List.mem_filter.mpr ⟨List.mem_of_getElem? (i := 1169) (by decide +kernel), by decide +kernel⟩
theorem qkl_1170 : Cond.static yL_spells ∈ lw_gd := List.mem_filter.mpr ⟨List.mem_of_getElem? (i := 1170) (by decide +kernel), by decide +kernel⟩
theorem qkl_1171 : Cond.code yL_spells cL_spells 5 (some .boolean) ∈ lw_gd := List.mem_filter.mpr ⟨List.mem_of_getElem? (i := 1171) (by decide +kernel), by decide +kernel⟩
theorem qkl_1173 : Cond.methodLink RL 245 yL_character ∈ lw_gd := List.mem_filter.mpr ⟨List.mem_of_getElem? (i := 1173) (by decide +kernel), by decide +kernel⟩
theorem qkl_1174 : Cond.static yL_character ∈ lw_gd := List.mem_filter.mpr ⟨List.mem_of_getElem? (i := 1174) (by decide +kernel), by decide +kernel⟩
theorem qkl_1175 : Cond.codeWith yL_character cL_character 3 (some .int) [(0, 5, 6, 28)] ∈ lw_gd := List.mem_filter.mpr ⟨List.mem_of_getElem? (i := 1175) (by decide +kernel), by decide +kernel⟩
theorem qkl_1176 : Cond.methodLink RL 87 yX5_character ∈ lw_gd := List.mem_filter.mpr ⟨List.mem_of_getElem? (i := 1176) (by decide +kernel), by decide +kernel⟩
theorem qkl_1185 : Cond.methodLink RL 281 yX5_programmeLine ∈ lw_gd := List.mem_filter.mpr ⟨List.mem_of_getElem? (i := 1185) (by decide +kernel), by decide +kernel⟩
theorem qkl_1194 : Cond.methodLink RL 193 yL_undone ∈ lw_gd := List.mem_filter.mpr ⟨List.mem_of_getElem? (i := 1194) (by decide +kernel), by decide +kernel⟩
theorem qkl_1195 : Cond.static yL_undone ∈ lw_gd := List.mem_filter.mpr ⟨List.mem_of_getElem? (i := 1195) (by decide +kernel), by decide +kernel⟩
theorem qkl_1196 : Cond.code yL_undone cL_undone 10 (some .boolean) ∈ lw_gd := List.mem_filter.mpr ⟨List.mem_of_getElem? (i := 1196) (by decide +kernel), by decide +kernel⟩
theorem qkl_1197 : Cond.methodLink RL 292 yL_sum ∈ lw_gd := List.mem_filter.mpr ⟨List.mem_of_getElem? (i := 1197) (by decide +kernel), by decide +kernel⟩
theorem qkl_1198 : Cond.static yL_sum ∈ lw_gd := List.mem_filter.mpr ⟨List.mem_of_getElem? (i := 1198) (by decide +kernel), by decide +kernel⟩
theorem qkl_1199 : Cond.code yL_sum cL_sum 4 (some .long) ∈ lw_gd := List.mem_filter.mpr ⟨List.mem_of_getElem? (i := 1199) (by decide +kernel), by decide +kernel⟩
theorem qkl_1204 : Cond.methodLink RL 296 yL_take ∈ lw_gd := List.mem_filter.mpr ⟨List.mem_of_getElem? (i := 1204) (by decide +kernel), by decide +kernel⟩
theorem qkl_1205 : Cond.static yL_take ∈ lw_gd := List.mem_filter.mpr ⟨List.mem_of_getElem? (i := 1205) (by decide +kernel), by decide +kernel⟩
theorem qkl_1206 : Cond.codeWith yL_take cL_take 3 (some .int) [(0, 5, 6, 28)] ∈ lw_gd := List.mem_filter.mpr ⟨List.mem_of_getElem? (i := 1206) (by decide +kernel), by decide +kernel⟩
theorem qkl_1207 : Cond.methodLink RL 24 yX5_take ∈ lw_gd := List.mem_filter.mpr ⟨List.mem_of_getElem? (i := 1207) (by decide +kernel), by decide +kernel⟩
theorem qkl_1211 : Cond.methodLink RL 298 yL_perform ∈ lw_gd := List.mem_filter.mpr ⟨List.mem_of_getElem? (i := 1211) (by decide +kernel), by decide +kernel⟩
theorem qkl_1212 : Cond.static yL_perform ∈ lw_gd := List.mem_filter.mpr ⟨List.mem_of_getElem? (i := 1212) (by decide +kernel), by decide +kernel⟩
theorem qkl_1213 : Cond.codeWith yL_perform cL_perform 2 (some .int) [(0, 4, 5, 16)] ∈ lw_gd := List.mem_filter.mpr ⟨List.mem_of_getElem? (i := 1213) (by decide +kernel), by decide +kernel⟩
theorem qkl_1214 : Cond.methodLink RL 39 yX5_perform ∈ lw_gd := List.mem_filter.mpr ⟨List.mem_of_getElem? (i := 1214) (by decide +kernel), by decide +kernel⟩
theorem qkl_1219 : Cond.methodLink RL 300 yX5_quiet ∈ lw_gd := List.mem_filter.mpr ⟨List.mem_of_getElem? (i := 1219) (by decide +kernel), by decide +kernel⟩
theorem qkl_1227 : Cond.methodLink RL 311 yL_run ∈ lw_gd := List.mem_filter.mpr ⟨List.mem_of_getElem? (i := 1227) (by decide +kernel), by decide +kernel⟩
theorem qkl_1228 : Cond.static yL_run ∈ lw_gd := List.mem_filter.mpr ⟨List.mem_of_getElem? (i := 1228) (by decide +kernel), by decide +kernel⟩
theorem qkl_1229 : Cond.code yL_run cL_run 3 (some .int) ∈ lw_gd := List.mem_filter.mpr ⟨List.mem_of_getElem? (i := 1229) (by decide +kernel), by decide +kernel⟩
theorem qkl_1230 : Cond.methodLink RL 115 yL_append ∈ lw_gd := List.mem_filter.mpr ⟨List.mem_of_getElem? (i := 1230) (by decide +kernel), by decide +kernel⟩
theorem qkl_1231 : Cond.static yL_append ∈ lw_gd := List.mem_filter.mpr ⟨List.mem_of_getElem? (i := 1231) (by decide +kernel), by decide +kernel⟩
theorem qkl_1232 : Cond.codeWith yL_append cL_append 3 (some .int) [(0, 5, 6, 95)] ∈ lw_gd := List.mem_filter.mpr ⟨List.mem_of_getElem? (i := 1232) (by decide +kernel), by decide +kernel⟩
theorem qkl_1233 : Cond.classLink RL 95 "java/lang/IllegalStateException" ∈ lw_gd := List.mem_filter.mpr ⟨List.mem_of_getElem? (i := 1233) (by decide +kernel), by decide +kernel⟩
theorem qkl_1234 : Cond.methodLink RL 91 yX5_append ∈ lw_gd := List.mem_filter.mpr ⟨List.mem_of_getElem? (i := 1234) (by decide +kernel), by decide +kernel⟩
theorem qkl_1259 : Cond.methodLink RL 120 yL_runs ∈ lw_gd := List.mem_filter.mpr ⟨List.mem_of_getElem? (i := 1259) (by decide +kernel), by decide +kernel⟩
theorem qkl_1260 : Cond.static yL_runs ∈ lw_gd := List.mem_filter.mpr ⟨List.mem_of_getElem? (i := 1260) (by decide +kernel), by decide +kernel⟩
theorem qkl_1261 : Cond.codeWith yL_runs cL_runs 2 (some .int) [(0, 4, 5, 14), (0, 4, 8, 16)] ∈ lw_gd := List.mem_filter.mpr ⟨List.mem_of_getElem? (i := 1261) (by decide +kernel), by decide +kernel⟩
theorem qkl_1262 : Cond.methodLink RL 97 yX5_run ∈ lw_gd := List.mem_filter.mpr ⟨List.mem_of_getElem? (i := 1262) (by decide +kernel), by decide +kernel⟩
theorem qkl_1332 : Cond.methodLink RL 314 yL_undo ∈ lw_gd := List.mem_filter.mpr ⟨List.mem_of_getElem? (i := 1332) (by decide +kernel), by decide +kernel⟩
theorem qkl_1333 : Cond.static yL_undo ∈ lw_gd := List.mem_filter.mpr ⟨List.mem_of_getElem? (i := 1333) (by decide +kernel), by decide +kernel⟩
theorem qkl_1334 : Cond.codeWith yL_undo cL_undo 2 (some .int) [(0, 4, 5, 95)] ∈ lw_gd := List.mem_filter.mpr ⟨List.mem_of_getElem? (i := 1334) (by decide +kernel), by decide +kernel⟩
theorem qkl_1335 : Cond.methodLink RL 104 yX5_undo ∈ lw_gd := List.mem_filter.mpr ⟨List.mem_of_getElem? (i := 1335) (by decide +kernel), by decide +kernel⟩
theorem qka_int : Cond.arrayClass .int ∈ lw_gd := List.mem_filter.mpr ⟨List.mem_of_getElem? (i := 159) (by decide +kernel), by decide +kernel⟩
theorem qka_boolean : Cond.arrayClass .boolean ∈ lw_gd := List.mem_filter.mpr ⟨List.mem_of_getElem? (i := 160) (by decide +kernel), by decide +kernel⟩
theorem qka_char : Cond.arrayClass .char ∈ lw_gd := List.mem_filter.mpr ⟨List.mem_of_getElem? (i := 211) (by decide +kernel), by decide +kernel⟩
theorem qka_byte : Cond.arrayClass .byte ∈ lw_gd := List.mem_filter.mpr ⟨List.mem_of_getElem? (i := 504) (by decide +kernel), by decide +kernel⟩
theorem qka_long : Cond.arrayClass .long ∈ lw_gd := List.mem_filter.mpr ⟨List.mem_of_getElem? (i := 1254) (by decide +kernel), by decide +kernel⟩
theorem qkc_1 : Cond.castable "java/lang/IllegalArgumentException" "java/lang/IllegalArgumentException" ∈ lw_ct := by decide +kernel
theorem qkc_2 : Cond.castable "java/lang/UnsupportedOperationException" "java/lang/UnsupportedOperationException" ∈ lw_ct := by decide +kernel
theorem qkc_3 : Cond.castable "java/lang/IndexOutOfBoundsException" "java/lang/IndexOutOfBoundsException" ∈ lw_ct := by decide +kernel
theorem qkc_4 : Cond.castable "java/util/NoSuchElementException" "java/util/NoSuchElementException" ∈ lw_ct := by decide +kernel
theorem qkc_5 : Cond.castable "java/lang/IllegalStateException" "java/lang/IllegalStateException" ∈ lw_ct := by decide +kernel
theorem dL_cup_0 : decode cL_cup 0 = .ok (.aload_n 0, 1) := by decide +kernel
theorem dL_cup_1 : decode cL_cup 1 = .ok (.iload_n 1, 1) := by decide +kernel
theorem dL_cup_2 : decode cL_cup 2 = .ok (.iload_n 2, 1) := by decide +kernel
theorem dL_cup_3 : decode cL_cup 3 = .ok (.invokevirtual 8, 3) := by decide +kernel
theorem dL_cup_6 : decode cL_cup 6 = .ok (.ireturn, 1) := by decide +kernel
theorem dL_cup_7 : decode cL_cup 7 = .ok (.astore_n 3, 1) := by decide +kernel
theorem dL_cup_8 : decode cL_cup 8 = .ok (.iconst (-1), 1) := by decide +kernel
theorem dL_cup_9 : decode cL_cup 9 = .ok (.ireturn, 1) := by decide +kernel
theorem dL_cup_10 : decode cL_cup 10 = .ok (.astore_n 3, 1) := by decide +kernel
theorem dL_cup_11 : decode cL_cup 11 = .ok (.bipush (-2), 2) := by decide +kernel
theorem dL_cup_13 : decode cL_cup 13 = .ok (.ireturn, 1) := by decide +kernel
theorem dL_lamp_0 : decode cL_lamp 0 = .ok (.aload_n 0, 1) := by decide +kernel
theorem dL_lamp_1 : decode cL_lamp 1 = .ok (.iload_n 1, 1) := by decide +kernel
theorem dL_lamp_2 : decode cL_lamp 2 = .ok (.iload_n 2, 1) := by decide +kernel
theorem dL_lamp_3 : decode cL_lamp 3 = .ok (.invokevirtual 18, 3) := by decide +kernel
theorem dL_lamp_6 : decode cL_lamp 6 = .ok (.ireturn, 1) := by decide +kernel
theorem dL_lamp_7 : decode cL_lamp 7 = .ok (.astore_n 3, 1) := by decide +kernel
theorem dL_lamp_8 : decode cL_lamp 8 = .ok (.iconst (-1), 1) := by decide +kernel
theorem dL_lamp_9 : decode cL_lamp 9 = .ok (.ireturn, 1) := by decide +kernel
theorem dL_lamp_10 : decode cL_lamp 10 = .ok (.astore_n 3, 1) := by decide +kernel
theorem dL_lamp_11 : decode cL_lamp 11 = .ok (.bipush (-2), 2) := by decide +kernel
theorem dL_lamp_13 : decode cL_lamp 13 = .ok (.ireturn, 1) := by decide +kernel
theorem dL_cat_0 : decode cL_cat 0 = .ok (.aload_n 0, 1) := by decide +kernel
theorem dL_cat_1 : decode cL_cat 1 = .ok (.iload_n 1, 1) := by decide +kernel
theorem dL_cat_2 : decode cL_cat 2 = .ok (.iload_n 2, 1) := by decide +kernel
theorem dL_cat_3 : decode cL_cat 3 = .ok (.invokevirtual 21, 3) := by decide +kernel
theorem dL_cat_6 : decode cL_cat 6 = .ok (.ireturn, 1) := by decide +kernel
theorem dL_cat_7 : decode cL_cat 7 = .ok (.astore_n 3, 1) := by decide +kernel
theorem dL_cat_8 : decode cL_cat 8 = .ok (.iconst (-1), 1) := by decide +kernel
theorem dL_cat_9 : decode cL_cat 9 = .ok (.ireturn, 1) := by decide +kernel
theorem dL_cat_10 : decode cL_cat 10 = .ok (.astore_n 3, 1) := by decide +kernel
theorem dL_cat_11 : decode cL_cat 11 = .ok (.bipush (-2), 2) := by decide +kernel
theorem dL_cat_13 : decode cL_cat 13 = .ok (.ireturn, 1) := by decide +kernel
theorem dL_take_0 : decode cL_take 0 = .ok (.aload_n 0, 1) := by decide +kernel
theorem dL_take_1 : decode cL_take 1 = .ok (.iload_n 1, 1) := by decide +kernel
theorem dL_take_2 : decode cL_take 2 = .ok (.invokevirtual 24, 3) := by decide +kernel
theorem dL_take_5 : decode cL_take 5 = .ok (.ireturn, 1) := by decide +kernel
theorem dL_take_6 : decode cL_take 6 = .ok (.astore_n 2, 1) := by decide +kernel
theorem dL_take_7 : decode cL_take 7 = .ok (.iconst (-1), 1) := by decide +kernel
theorem dL_take_8 : decode cL_take 8 = .ok (.ireturn, 1) := by decide +kernel
theorem dL_cue_0 : decode cL_cue 0 = .ok (.aload_n 0, 1) := by decide +kernel
theorem dL_cue_1 : decode cL_cue 1 = .ok (.iload_n 1, 1) := by decide +kernel
theorem dL_cue_2 : decode cL_cue 2 = .ok (.iload_n 2, 1) := by decide +kernel
theorem dL_cue_3 : decode cL_cue 3 = .ok (.invokevirtual 30, 3) := by decide +kernel
theorem dL_cue_6 : decode cL_cue 6 = .ok (.ireturn, 1) := by decide +kernel
theorem dL_cue_7 : decode cL_cue 7 = .ok (.astore_n 3, 1) := by decide +kernel
theorem dL_cue_8 : decode cL_cue 8 = .ok (.iconst (-1), 1) := by decide +kernel
theorem dL_cue_9 : decode cL_cue 9 = .ok (.ireturn, 1) := by decide +kernel
theorem dL_cue_10 : decode cL_cue 10 = .ok (.astore_n 3, 1) := by decide +kernel
theorem dL_cue_11 : decode cL_cue 11 = .ok (.bipush (-2), 2) := by decide +kernel
theorem dL_cue_13 : decode cL_cue 13 = .ok (.ireturn, 1) := by decide +kernel
theorem dL_cue_14 : decode cL_cue 14 = .ok (.astore_n 3, 1) := by decide +kernel
theorem dL_cue_15 : decode cL_cue 15 = .ok (.bipush (-3), 2) := by decide +kernel
theorem dL_cue_17 : decode cL_cue 17 = .ok (.ireturn, 1) := by decide +kernel
theorem dL_set_0 : decode cL_set 0 = .ok (.aload_n 0, 1) := by decide +kernel
theorem dL_set_1 : decode cL_set 1 = .ok (.iload_n 1, 1) := by decide +kernel
theorem dL_set_2 : decode cL_set 2 = .ok (.invokevirtual 33, 3) := by decide +kernel
theorem dL_set_5 : decode cL_set 5 = .ok (.ireturn, 1) := by decide +kernel
theorem dL_set_6 : decode cL_set 6 = .ok (.astore_n 2, 1) := by decide +kernel
theorem dL_set_7 : decode cL_set 7 = .ok (.iconst (-1), 1) := by decide +kernel
theorem dL_set_8 : decode cL_set 8 = .ok (.ireturn, 1) := by decide +kernel
theorem dL_set_9 : decode cL_set 9 = .ok (.astore_n 2, 1) := by decide +kernel
theorem dL_set_10 : decode cL_set 10 = .ok (.bipush (-2), 2) := by decide +kernel
theorem dL_set_12 : decode cL_set 12 = .ok (.ireturn, 1) := by decide +kernel
theorem dL_add_0 : decode cL_add 0 = .ok (.aload_n 0, 1) := by decide +kernel
theorem dL_add_1 : decode cL_add 1 = .ok (.iload_n 1, 1) := by decide +kernel
theorem dL_add_2 : decode cL_add 2 = .ok (.invokevirtual 36, 3) := by decide +kernel
theorem dL_add_5 : decode cL_add 5 = .ok (.ireturn, 1) := by decide +kernel
theorem dL_add_6 : decode cL_add 6 = .ok (.astore_n 2, 1) := by decide +kernel
theorem dL_add_7 : decode cL_add 7 = .ok (.iconst (-1), 1) := by decide +kernel
theorem dL_add_8 : decode cL_add 8 = .ok (.ireturn, 1) := by decide +kernel
theorem dL_add_9 : decode cL_add 9 = .ok (.astore_n 2, 1) := by decide +kernel
theorem dL_add_10 : decode cL_add 10 = .ok (.bipush (-2), 2) := by decide +kernel
theorem dL_add_12 : decode cL_add 12 = .ok (.ireturn, 1) := by decide +kernel
theorem dL_perform_0 : decode cL_perform 0 = .ok (.aload_n 0, 1) := by decide +kernel
theorem dL_perform_1 : decode cL_perform 1 = .ok (.invokevirtual 39, 3) := by decide +kernel
theorem dL_perform_4 : decode cL_perform 4 = .ok (.ireturn, 1) := by decide +kernel
theorem dL_perform_5 : decode cL_perform 5 = .ok (.astore_n 1, 1) := by decide +kernel
theorem dL_perform_6 : decode cL_perform 6 = .ok (.bipush (-2), 2) := by decide +kernel
theorem dL_perform_8 : decode cL_perform 8 = .ok (.ireturn, 1) := by decide +kernel
theorem dL_of_0 : decode cL_of 0 = .ok (.aload_n 0, 1) := by decide +kernel
theorem dL_of_1 : decode cL_of 1 = .ok (.iload_n 1, 1) := by decide +kernel
theorem dL_of_2 : decode cL_of 2 = .ok (.iload_n 2, 1) := by decide +kernel
theorem dL_of_3 : decode cL_of 3 = .ok (.invokevirtual 43, 3) := by decide +kernel
theorem dL_of_6 : decode cL_of 6 = .ok (.ireturn, 1) := by decide +kernel
theorem dL_of_7 : decode cL_of 7 = .ok (.astore_n 3, 1) := by decide +kernel
theorem dL_of_8 : decode cL_of 8 = .ok (.bipush (-11), 2) := by decide +kernel
theorem dL_of_10 : decode cL_of 10 = .ok (.ireturn, 1) := by decide +kernel
theorem dL_of_11 : decode cL_of 11 = .ok (.astore_n 3, 1) := by decide +kernel
theorem dL_of_12 : decode cL_of 12 = .ok (.bipush (-12), 2) := by decide +kernel
theorem dL_of_14 : decode cL_of 14 = .ok (.ireturn, 1) := by decide +kernel
theorem dL_programme_0 : decode cL_programme 0 = .ok (.aload_n 0, 1) := by decide +kernel
theorem dL_programme_1 : decode cL_programme 1 = .ok (.iload_n 1, 1) := by decide +kernel
theorem dL_programme_2 : decode cL_programme 2 = .ok (.invokevirtual 46, 3) := by decide +kernel
theorem dL_programme_5 : decode cL_programme 5 = .ok (.ireturn, 1) := by decide +kernel
theorem dL_programme_6 : decode cL_programme 6 = .ok (.astore_n 2, 1) := by decide +kernel
theorem dL_programme_7 : decode cL_programme 7 = .ok (.bipush (-13), 2) := by decide +kernel
theorem dL_programme_9 : decode cL_programme 9 = .ok (.ireturn, 1) := by decide +kernel
theorem dL_on_0 : decode cL_on 0 = .ok (.aload_n 0, 1) := by decide +kernel
theorem dL_on_1 : decode cL_on 1 = .ok (.iload_n 1, 1) := by decide +kernel
theorem dL_on_2 : decode cL_on 2 = .ok (.iload_n 2, 1) := by decide +kernel
theorem dL_on_3 : decode cL_on 3 = .ok (.iload_n 3, 1) := by decide +kernel
theorem dL_on_4 : decode cL_on 4 = .ok (.invokevirtual 51, 3) := by decide +kernel
theorem dL_on_7 : decode cL_on 7 = .ok (.ireturn, 1) := by decide +kernel
theorem dL_on_8 : decode cL_on 8 = .ok (.astore 4, 2) := by decide +kernel
theorem dL_on_10 : decode cL_on 10 = .ok (.bipush (-12), 2) := by decide +kernel
theorem dL_on_12 : decode cL_on 12 = .ok (.ireturn, 1) := by decide +kernel
theorem dL_wouldMark_0 : decode cL_wouldMark 0 = .ok (.aload_n 0, 1) := by decide +kernel
theorem dL_wouldMark_1 : decode cL_wouldMark 1 = .ok (.iload_n 1, 1) := by decide +kernel
theorem dL_wouldMark_2 : decode cL_wouldMark 2 = .ok (.invokevirtual 55, 3) := by decide +kernel
theorem dL_wouldMark_5 : decode cL_wouldMark 5 = .ok (.ireturn, 1) := by decide +kernel
theorem dL_wouldMark_6 : decode cL_wouldMark 6 = .ok (.astore_n 2, 1) := by decide +kernel
theorem dL_wouldMark_7 : decode cL_wouldMark 7 = .ok (.bipush (-12), 2) := by decide +kernel
theorem dL_wouldMark_9 : decode cL_wouldMark 9 = .ok (.ireturn, 1) := by decide +kernel
theorem dL_wouldBreak_0 : decode cL_wouldBreak 0 = .ok (.aload_n 0, 1) := by decide +kernel
theorem dL_wouldBreak_1 : decode cL_wouldBreak 1 = .ok (.iload_n 1, 1) := by decide +kernel
theorem dL_wouldBreak_2 : decode cL_wouldBreak 2 = .ok (.iload_n 2, 1) := by decide +kernel
theorem dL_wouldBreak_3 : decode cL_wouldBreak 3 = .ok (.invokevirtual 58, 3) := by decide +kernel
theorem dL_wouldBreak_6 : decode cL_wouldBreak 6 = .ok (.ireturn, 1) := by decide +kernel
theorem dL_wouldBreak_7 : decode cL_wouldBreak 7 = .ok (.astore_n 3, 1) := by decide +kernel
theorem dL_wouldBreak_8 : decode cL_wouldBreak 8 = .ok (.bipush (-12), 2) := by decide +kernel
theorem dL_wouldBreak_10 : decode cL_wouldBreak 10 = .ok (.ireturn, 1) := by decide +kernel
theorem dL_leastBreaking_0 : decode cL_leastBreaking 0 = .ok (.aload_n 0, 1) := by decide +kernel
theorem dL_leastBreaking_1 : decode cL_leastBreaking 1 = .ok (.invokevirtual 62, 3) := by decide +kernel
theorem dL_leastBreaking_4 : decode cL_leastBreaking 4 = .ok (.ireturn, 1) := by decide +kernel
theorem dL_leastBreaking_5 : decode cL_leastBreaking 5 = .ok (.astore_n 1, 1) := by decide +kernel
theorem dL_leastBreaking_6 : decode cL_leastBreaking 6 = .ok (.bipush (-13), 2) := by decide +kernel
theorem dL_leastBreaking_8 : decode cL_leastBreaking 8 = .ok (.ireturn, 1) := by decide +kernel
theorem dL_shocksFor_0 : decode cL_shocksFor 0 = .ok (.aload_n 0, 1) := by decide +kernel
theorem dL_shocksFor_1 : decode cL_shocksFor 1 = .ok (.iload_n 1, 1) := by decide +kernel
theorem dL_shocksFor_2 : decode cL_shocksFor 2 = .ok (.invokevirtual 65, 3) := by decide +kernel
theorem dL_shocksFor_5 : decode cL_shocksFor 5 = .ok (.ireturn, 1) := by decide +kernel
theorem dL_shocksFor_6 : decode cL_shocksFor 6 = .ok (.astore_n 2, 1) := by decide +kernel
theorem dL_shocksFor_7 : decode cL_shocksFor 7 = .ok (.bipush (-11), 2) := by decide +kernel
theorem dL_shocksFor_9 : decode cL_shocksFor 9 = .ok (.ireturn, 1) := by decide +kernel
theorem dL_isBroken_0 : decode cL_isBroken 0 = .ok (.aload_n 0, 1) := by decide +kernel
theorem dL_isBroken_1 : decode cL_isBroken 1 = .ok (.iload_n 1, 1) := by decide +kernel
theorem dL_isBroken_2 : decode cL_isBroken 2 = .ok (.invokevirtual 68, 3) := by decide +kernel
theorem dL_isBroken_5 : decode cL_isBroken 5 = .ok (.ifCond .eq 7, 3) := by decide +kernel
theorem dL_isBroken_8 : decode cL_isBroken 8 = .ok (.iconst 1, 1) := by decide +kernel
theorem dL_isBroken_9 : decode cL_isBroken 9 = .ok (.goto 4, 3) := by decide +kernel
theorem dL_isBroken_12 : decode cL_isBroken 12 = .ok (.iconst 0, 1) := by decide +kernel
theorem dL_isBroken_13 : decode cL_isBroken 13 = .ok (.ireturn, 1) := by decide +kernel
theorem dL_isBroken_14 : decode cL_isBroken 14 = .ok (.astore_n 2, 1) := by decide +kernel
theorem dL_isBroken_15 : decode cL_isBroken 15 = .ok (.bipush (-11), 2) := by decide +kernel
theorem dL_isBroken_17 : decode cL_isBroken 17 = .ok (.ireturn, 1) := by decide +kernel
theorem dL_cupAt_0 : decode cL_cupAt 0 = .ok (.aload_n 0, 1) := by decide +kernel
theorem dL_cupAt_1 : decode cL_cupAt 1 = .ok (.iload_n 1, 1) := by decide +kernel
theorem dL_cupAt_2 : decode cL_cupAt 2 = .ok (.invokevirtual 72, 3) := by decide +kernel
theorem dL_cupAt_5 : decode cL_cupAt 5 = .ok (.ireturn, 1) := by decide +kernel
theorem dL_cupAt_6 : decode cL_cupAt 6 = .ok (.astore_n 2, 1) := by decide +kernel
theorem dL_cupAt_7 : decode cL_cupAt 7 = .ok (.bipush (-13), 2) := by decide +kernel
theorem dL_cupAt_9 : decode cL_cupAt 9 = .ok (.ireturn, 1) := by decide +kernel
theorem dL_lampAt_0 : decode cL_lampAt 0 = .ok (.aload_n 0, 1) := by decide +kernel
theorem dL_lampAt_1 : decode cL_lampAt 1 = .ok (.iload_n 1, 1) := by decide +kernel
theorem dL_lampAt_2 : decode cL_lampAt 2 = .ok (.invokevirtual 75, 3) := by decide +kernel
theorem dL_lampAt_5 : decode cL_lampAt 5 = .ok (.ireturn, 1) := by decide +kernel
theorem dL_lampAt_6 : decode cL_lampAt 6 = .ok (.astore_n 2, 1) := by decide +kernel
theorem dL_lampAt_7 : decode cL_lampAt 7 = .ok (.bipush (-13), 2) := by decide +kernel
theorem dL_lampAt_9 : decode cL_lampAt 9 = .ok (.ireturn, 1) := by decide +kernel
theorem dL_catAt_0 : decode cL_catAt 0 = .ok (.aload_n 0, 1) := by decide +kernel
theorem dL_catAt_1 : decode cL_catAt 1 = .ok (.iload_n 1, 1) := by decide +kernel
theorem dL_catAt_2 : decode cL_catAt 2 = .ok (.invokevirtual 78, 3) := by decide +kernel
theorem dL_catAt_5 : decode cL_catAt 5 = .ok (.ireturn, 1) := by decide +kernel
theorem dL_catAt_6 : decode cL_catAt 6 = .ok (.astore_n 2, 1) := by decide +kernel
theorem dL_catAt_7 : decode cL_catAt 7 = .ok (.bipush (-13), 2) := by decide +kernel
theorem dL_catAt_9 : decode cL_catAt 9 = .ok (.ireturn, 1) := by decide +kernel
theorem dL_onFloor_0 : decode cL_onFloor 0 = .ok (.aload_n 0, 1) := by decide +kernel
theorem dL_onFloor_1 : decode cL_onFloor 1 = .ok (.iload_n 1, 1) := by decide +kernel
theorem dL_onFloor_2 : decode cL_onFloor 2 = .ok (.iload_n 2, 1) := by decide +kernel
theorem dL_onFloor_3 : decode cL_onFloor 3 = .ok (.invokevirtual 81, 3) := by decide +kernel
theorem dL_onFloor_6 : decode cL_onFloor 6 = .ok (.ireturn, 1) := by decide +kernel
theorem dL_onFloor_7 : decode cL_onFloor 7 = .ok (.astore_n 3, 1) := by decide +kernel
theorem dL_onFloor_8 : decode cL_onFloor 8 = .ok (.bipush (-12), 2) := by decide +kernel
theorem dL_onFloor_10 : decode cL_onFloor 10 = .ok (.ireturn, 1) := by decide +kernel
theorem dL_line_0 : decode cL_line 0 = .ok (.aload_n 0, 1) := by decide +kernel
theorem dL_line_1 : decode cL_line 1 = .ok (.iload_n 1, 1) := by decide +kernel
theorem dL_line_2 : decode cL_line 2 = .ok (.invokevirtual 84, 3) := by decide +kernel
theorem dL_line_5 : decode cL_line 5 = .ok (.ireturn, 1) := by decide +kernel
theorem dL_line_6 : decode cL_line 6 = .ok (.astore_n 2, 1) := by decide +kernel
theorem dL_line_7 : decode cL_line 7 = .ok (.bipush (-11), 2) := by decide +kernel
theorem dL_line_9 : decode cL_line 9 = .ok (.ireturn, 1) := by decide +kernel
theorem dL_character_0 : decode cL_character 0 = .ok (.aload_n 0, 1) := by decide +kernel
theorem dL_character_1 : decode cL_character 1 = .ok (.iload_n 1, 1) := by decide +kernel
theorem dL_character_2 : decode cL_character 2 = .ok (.invokevirtual 87, 3) := by decide +kernel
theorem dL_character_5 : decode cL_character 5 = .ok (.ireturn, 1) := by decide +kernel
theorem dL_character_6 : decode cL_character 6 = .ok (.astore_n 2, 1) := by decide +kernel
theorem dL_character_7 : decode cL_character 7 = .ok (.bipush (-11), 2) := by decide +kernel
theorem dL_character_9 : decode cL_character 9 = .ok (.ireturn, 1) := by decide +kernel
theorem dL_append_0 : decode cL_append 0 = .ok (.aload_n 0, 1) := by decide +kernel
theorem dL_append_1 : decode cL_append 1 = .ok (.iload_n 1, 1) := by decide +kernel
theorem dL_append_2 : decode cL_append 2 = .ok (.invokevirtual 91, 3) := by decide +kernel
theorem dL_append_5 : decode cL_append 5 = .ok (.ireturn, 1) := by decide +kernel
theorem dL_append_6 : decode cL_append 6 = .ok (.astore_n 2, 1) := by decide +kernel
theorem dL_append_7 : decode cL_append 7 = .ok (.bipush (-14), 2) := by decide +kernel
theorem dL_append_9 : decode cL_append 9 = .ok (.ireturn, 1) := by decide +kernel
theorem dL_runs_0 : decode cL_runs 0 = .ok (.aload_n 0, 1) := by decide +kernel
theorem dL_runs_1 : decode cL_runs 1 = .ok (.invokevirtual 97, 3) := by decide +kernel
theorem dL_runs_4 : decode cL_runs 4 = .ok (.ireturn, 1) := by decide +kernel
theorem dL_runs_5 : decode cL_runs 5 = .ok (.astore_n 1, 1) := by decide +kernel
theorem dL_runs_6 : decode cL_runs 6 = .ok (.iconst (-1), 1) := by decide +kernel
theorem dL_runs_7 : decode cL_runs 7 = .ok (.ireturn, 1) := by decide +kernel
theorem dL_runs_8 : decode cL_runs 8 = .ok (.astore_n 1, 1) := by decide +kernel
theorem dL_runs_9 : decode cL_runs 9 = .ok (.bipush (-2), 2) := by decide +kernel
theorem dL_runs_11 : decode cL_runs 11 = .ok (.ireturn, 1) := by decide +kernel
theorem dL_refusal_0 : decode cL_refusal 0 = .ok (.aload_n 0, 1) := by decide +kernel
theorem dL_refusal_1 : decode cL_refusal 1 = .ok (.iload_n 1, 1) := by decide +kernel
theorem dL_refusal_2 : decode cL_refusal 2 = .ok (.invokevirtual 100, 3) := by decide +kernel
theorem dL_refusal_5 : decode cL_refusal 5 = .ok (.ireturn, 1) := by decide +kernel
theorem dL_refusal_6 : decode cL_refusal 6 = .ok (.astore_n 2, 1) := by decide +kernel
theorem dL_refusal_7 : decode cL_refusal 7 = .ok (.bipush (-101), 2) := by decide +kernel
theorem dL_refusal_9 : decode cL_refusal 9 = .ok (.ireturn, 1) := by decide +kernel
theorem dL_undo_0 : decode cL_undo 0 = .ok (.aload_n 0, 1) := by decide +kernel
theorem dL_undo_1 : decode cL_undo 1 = .ok (.invokevirtual 104, 3) := by decide +kernel
theorem dL_undo_4 : decode cL_undo 4 = .ok (.ireturn, 1) := by decide +kernel
theorem dL_undo_5 : decode cL_undo 5 = .ok (.astore_n 1, 1) := by decide +kernel
theorem dL_undo_6 : decode cL_undo 6 = .ok (.iconst (-1), 1) := by decide +kernel
theorem dL_undo_7 : decode cL_undo 7 = .ok (.ireturn, 1) := by decide +kernel
