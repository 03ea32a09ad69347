/-! the tables' words, by their places (written by wip/whole/gen.py) -/
/-- the words of the tables that stay -/
def aBIG : List Cond := lw_tbl.filter goodWord
theorem aBIG_of {w : Cond} (h : w ∈ lw_tbl) (hg : goodWord w = true) : w ∈ aBIG := List.mem_filter.mpr ⟨h, hg⟩
theorem aBIG_good {w : Cond} (h : w ∈ aBIG) : goodWord w = true := (List.mem_filter.mp h).2
theorem aBIG_in {w : Cond} (h : w ∈ aBIG) : w ∈ lw_tbl := (List.mem_filter.mp h).1
theorem aT1 {w : Cond} (h : w ∈ tables_1_1) : w ∈ lw_tbl := by
  show w ∈ k2_sels lw_privs ++ (tables_1_1 ++ (tables_1_2 ++ (tables_1_3 ++ (tables_1_4 ++ (tables_1_5 ++ tables_1_6)))))
  exact List.mem_append_right _ (List.mem_append_left _ h)
theorem aT2 {w : Cond} (h : w ∈ tables_1_2) : w ∈ lw_tbl := by
  show w ∈ k2_sels lw_privs ++ (tables_1_1 ++ (tables_1_2 ++ (tables_1_3 ++ (tables_1_4 ++ (tables_1_5 ++ tables_1_6)))))
  exact List.mem_append_right _ (List.mem_append_right _ (List.mem_append_left _ h))
theorem aT3 {w : Cond} (h : w ∈ tables_1_3) : w ∈ lw_tbl := by
  show w ∈ k2_sels lw_privs ++ (tables_1_1 ++ (tables_1_2 ++ (tables_1_3 ++ (tables_1_4 ++ (tables_1_5 ++ tables_1_6)))))
  exact List.mem_append_right _ (List.mem_append_right _ (List.mem_append_right _ (List.mem_append_left _ h)))
theorem aT4 {w : Cond} (h : w ∈ tables_1_4) : w ∈ lw_tbl := by
  show w ∈ k2_sels lw_privs ++ (tables_1_1 ++ (tables_1_2 ++ (tables_1_3 ++ (tables_1_4 ++ (tables_1_5 ++ tables_1_6)))))
  exact List.mem_append_right _ (List.mem_append_right _ (List.mem_append_right _ (List.mem_append_right _ (List.mem_append_left _ h))))
theorem aT5 {w : Cond} (h : w ∈ tables_1_5) : w ∈ lw_tbl := by
  show w ∈ k2_sels lw_privs ++ (tables_1_1 ++ (tables_1_2 ++ (tables_1_3 ++ (tables_1_4 ++ (tables_1_5 ++ tables_1_6)))))
  exact List.mem_append_right _ (List.mem_append_right _ (List.mem_append_right _ (List.mem_append_right _ (List.mem_append_right _ (List.mem_append_left _ h)))))
theorem aT6 {w : Cond} (h : w ∈ tables_1_6) : w ∈ lw_tbl := by
  show w ∈ k2_sels lw_privs ++ (tables_1_1 ++ (tables_1_2 ++ (tables_1_3 ++ (tables_1_4 ++ (tables_1_5 ++ tables_1_6)))))
  exact List.mem_append_right _ (List.mem_append_right _ (List.mem_append_right _ (List.mem_append_right _ (List.mem_append_right _ (List.mem_append_right _ (h))))))
theorem w_0 : Cond.selects RX1 yX1_step yX1_step ∈ aBIG := aBIG_of (List.mem_append_left _ (List.mem_of_getElem? (i := 0) (by decide +kernel))) rfl
theorem w_1 : Cond.selects RX1 yX1_byteAt yX1_byteAt ∈ aBIG := aBIG_of (List.mem_append_left _ (List.mem_of_getElem? (i := 1) (by decide +kernel))) rfl
theorem w_2 : Cond.selects RX1 yX1_skip yX1_skip ∈ aBIG := aBIG_of (List.mem_append_left _ (List.mem_of_getElem? (i := 2) (by decide +kernel))) rfl
theorem w_3 : Cond.selects RX1 yX1_wordAt yX1_wordAt ∈ aBIG := aBIG_of (List.mem_append_left _ (List.mem_of_getElem? (i := 3) (by decide +kernel))) rfl
theorem w_4 : Cond.selects RX1 yX1_reads yX1_reads ∈ aBIG := aBIG_of (List.mem_append_left _ (List.mem_of_getElem? (i := 4) (by decide +kernel))) rfl
theorem w_5 : Cond.selects RX1 yX1_numberAt yX1_numberAt ∈ aBIG := aBIG_of (List.mem_append_left _ (List.mem_of_getElem? (i := 5) (by decide +kernel))) rfl
theorem w_6 : Cond.selects RX1 yX1_signAt yX1_signAt ∈ aBIG := aBIG_of (List.mem_append_left _ (List.mem_of_getElem? (i := 6) (by decide +kernel))) rfl
theorem w_7 : Cond.selects RX1 yX1_readPart yX1_readPart ∈ aBIG := aBIG_of (List.mem_append_left _ (List.mem_of_getElem? (i := 7) (by decide +kernel))) rfl
theorem w_8 : Cond.selects RX1 yX1_readOr yX1_readOr ∈ aBIG := aBIG_of (List.mem_append_left _ (List.mem_of_getElem? (i := 8) (by decide +kernel))) rfl
theorem w_9 : Cond.selects RX1 yX1_readAnd yX1_readAnd ∈ aBIG := aBIG_of (List.mem_append_left _ (List.mem_of_getElem? (i := 9) (by decide +kernel))) rfl
theorem w_10 : Cond.selects RX1 yX1_readNot yX1_readNot ∈ aBIG := aBIG_of (List.mem_append_left _ (List.mem_of_getElem? (i := 10) (by decide +kernel))) rfl
theorem w_11 : Cond.selects RX1 yX1_readLike yX1_readLike ∈ aBIG := aBIG_of (List.mem_append_left _ (List.mem_of_getElem? (i := 11) (by decide +kernel))) rfl
theorem w_12 : Cond.selects RX1 yX1_readSum yX1_readSum ∈ aBIG := aBIG_of (List.mem_append_left _ (List.mem_of_getElem? (i := 12) (by decide +kernel))) rfl
theorem w_13 : Cond.selects RX1 yX1_readTerm yX1_readTerm ∈ aBIG := aBIG_of (List.mem_append_left _ (List.mem_of_getElem? (i := 13) (by decide +kernel))) rfl
theorem w_14 : Cond.selects RX1 yX1_readOne yX1_readOne ∈ aBIG := aBIG_of (List.mem_append_left _ (List.mem_of_getElem? (i := 14) (by decide +kernel))) rfl
theorem w_15 : Cond.selects RX6 yX6_setDay yX6_setDay ∈ aBIG := aBIG_of (List.mem_append_left _ (List.mem_of_getElem? (i := 15) (by decide +kernel))) rfl
theorem w_16 : Cond.selects RX6 yX6_setHard yX6_setHard ∈ aBIG := aBIG_of (List.mem_append_left _ (List.mem_of_getElem? (i := 16) (by decide +kernel))) rfl
theorem w_17 : Cond.selects RX6 yX6_pupilAt yX6_pupilAt ∈ aBIG := aBIG_of (List.mem_append_left _ (List.mem_of_getElem? (i := 17) (by decide +kernel))) rfl
theorem w_18 : Cond.selects RX6 yX6_comes yX6_comes ∈ aBIG := aBIG_of (List.mem_append_left _ (List.mem_of_getElem? (i := 18) (by decide +kernel))) rfl
theorem w_19 : Cond.selects RX5 yX5_name yX5_name ∈ aBIG := aBIG_of (List.mem_append_left _ (List.mem_of_getElem? (i := 19) (by decide +kernel))) rfl
theorem w_20 : Cond.selects RX6 yX6_textAt yX6_textAt ∈ aBIG := aBIG_of (List.mem_append_left _ (List.mem_of_getElem? (i := 20) (by decide +kernel))) rfl
theorem w_21 : Cond.selects RX6 yX6_readyPupils yX6_readyPupils ∈ aBIG := aBIG_of (List.mem_append_left _ (List.mem_of_getElem? (i := 21) (by decide +kernel))) rfl
theorem w_22 : Cond.selects RX4 yX4_tryRows yX4_tryRows ∈ aBIG := aBIG_of (List.mem_append_left _ (List.mem_of_getElem? (i := 22) (by decide +kernel))) rfl
theorem w_23 : Cond.selects RX4 yX4_passNight yX4_passNight ∈ aBIG := aBIG_of (List.mem_append_left _ (List.mem_of_getElem? (i := 23) (by decide +kernel))) rfl
theorem w_24 : Cond.selects RX6 yX6_sheetAt yX6_sheetAt ∈ aBIG := aBIG_of (List.mem_append_left _ (List.mem_of_getElem? (i := 24) (by decide +kernel))) rfl
theorem w_25 : Cond.selects RX6 yX6_guessesOf yX6_guessesOf ∈ aBIG := aBIG_of (List.mem_append_left _ (List.mem_of_getElem? (i := 25) (by decide +kernel))) rfl
theorem w_26 : Cond.selects RX6 yX6_suppose yX6_suppose ∈ aBIG := aBIG_of (List.mem_append_left _ (List.mem_of_getElem? (i := 26) (by decide +kernel))) rfl
theorem w_27 : Cond.selects RX6 yX6_bumpsOfAll yX6_bumpsOfAll ∈ aBIG := aBIG_of (List.mem_append_left _ (List.mem_of_getElem? (i := 27) (by decide +kernel))) rfl
theorem w_28 : Cond.selects RX7 yX7_spell yX7_spell ∈ aBIG := aBIG_of (List.mem_append_left _ (List.mem_of_getElem? (i := 28) (by decide +kernel))) rfl
theorem w_29 : Cond.selects RX7 yX7_isOf yX7_isOf ∈ aBIG := aBIG_of (List.mem_append_left _ (List.mem_of_getElem? (i := 29) (by decide +kernel))) rfl
theorem w_30 : Cond.selects RX7 yX7_isOne yX7_isOne ∈ aBIG := aBIG_of (List.mem_append_left _ (List.mem_of_getElem? (i := 30) (by decide +kernel))) rfl
theorem w_31 : Cond.selects RX7 yX7_manages yX7_manages ∈ aBIG := aBIG_of (List.mem_append_left _ (List.mem_of_getElem? (i := 31) (by decide +kernel))) rfl
theorem w_32 : Cond.selects RX7 yX7_overOf yX7_overOf ∈ aBIG := aBIG_of (List.mem_append_left _ (List.mem_of_getElem? (i := 32) (by decide +kernel))) rfl
theorem w_33 : Cond.selects RX7 yX7_nerveOf yX7_nerveOf ∈ aBIG := aBIG_of (List.mem_append_left _ (List.mem_of_getElem? (i := 33) (by decide +kernel))) rfl
theorem w_34 : Cond.selects RX7 yX7_says yX7_says ∈ aBIG := aBIG_of (List.mem_append_left _ (List.mem_of_getElem? (i := 34) (by decide +kernel))) rfl
theorem w_35 : Cond.selects RX7 yX7_read yX7_read ∈ aBIG := aBIG_of (List.mem_append_left _ (List.mem_of_getElem? (i := 35) (by decide +kernel))) rfl
theorem w_36 : Cond.selects RX7 yX7_next yX7_next ∈ aBIG := aBIG_of (List.mem_append_left _ (List.mem_of_getElem? (i := 36) (by decide +kernel))) rfl
theorem w_37 : Cond.selects RX7 yX7_byteAt yX7_byteAt ∈ aBIG := aBIG_of (List.mem_append_left _ (List.mem_of_getElem? (i := 37) (by decide +kernel))) rfl
theorem w_38 : Cond.selects RX7 yX7_isWord yX7_isWord ∈ aBIG := aBIG_of (List.mem_append_left _ (List.mem_of_getElem? (i := 38) (by decide +kernel))) rfl
theorem w_39 : Cond.selects RX7 yX7_isLetter yX7_isLetter ∈ aBIG := aBIG_of (List.mem_append_left _ (List.mem_of_getElem? (i := 39) (by decide +kernel))) rfl
theorem w_40 : Cond.selects RX7 yX7_part yX7_part ∈ aBIG := aBIG_of (List.mem_append_left _ (List.mem_of_getElem? (i := 40) (by decide +kernel))) rfl
theorem w_41 : Cond.selects RX7 yX7_fail yX7_fail ∈ aBIG := aBIG_of (List.mem_append_left _ (List.mem_of_getElem? (i := 41) (by decide +kernel))) rfl
theorem w_42 : Cond.selects RX7 yX7_either0 yX7_either0 ∈ aBIG := aBIG_of (List.mem_append_left _ (List.mem_of_getElem? (i := 42) (by decide +kernel))) rfl
theorem w_43 : Cond.selects RX7 yX7_both0 yX7_both0 ∈ aBIG := aBIG_of (List.mem_append_left _ (List.mem_of_getElem? (i := 43) (by decide +kernel))) rfl
theorem w_44 : Cond.selects RX7 yX7_not0 yX7_not0 ∈ aBIG := aBIG_of (List.mem_append_left _ (List.mem_of_getElem? (i := 44) (by decide +kernel))) rfl
theorem w_45 : Cond.selects RX7 yX7_opens yX7_opens ∈ aBIG := aBIG_of (List.mem_append_left _ (List.mem_of_getElem? (i := 45) (by decide +kernel))) rfl
theorem w_46 : Cond.selects RX7 yX7_not1 yX7_not1 ∈ aBIG := aBIG_of (List.mem_append_left _ (List.mem_of_getElem? (i := 46) (by decide +kernel))) rfl
theorem w_47 : Cond.selects RX7 yX7_not2 yX7_not2 ∈ aBIG := aBIG_of (List.mem_append_left _ (List.mem_of_getElem? (i := 47) (by decide +kernel))) rfl
theorem w_48 : Cond.selects RX7 yX7_not3 yX7_not3 ∈ aBIG := aBIG_of (List.mem_append_left _ (List.mem_of_getElem? (i := 48) (by decide +kernel))) rfl
theorem w_49 : Cond.selects RX7 yX7_not4 yX7_not4 ∈ aBIG := aBIG_of (List.mem_append_left _ (List.mem_of_getElem? (i := 49) (by decide +kernel))) rfl
theorem w_50 : Cond.selects RX7 yX7_not5 yX7_not5 ∈ aBIG := aBIG_of (List.mem_append_left _ (List.mem_of_getElem? (i := 50) (by decide +kernel))) rfl
theorem w_51 : Cond.selects RX7 yX7_added5 yX7_added5 ∈ aBIG := aBIG_of (List.mem_append_left _ (List.mem_of_getElem? (i := 51) (by decide +kernel))) rfl
theorem w_52 : Cond.selects RX7 yX7_term5 yX7_term5 ∈ aBIG := aBIG_of (List.mem_append_left _ (List.mem_of_getElem? (i := 52) (by decide +kernel))) rfl
theorem w_53 : Cond.selects RX7 yX7_atom5 yX7_atom5 ∈ aBIG := aBIG_of (List.mem_append_left _ (List.mem_of_getElem? (i := 53) (by decide +kernel))) rfl
theorem w_54 : Cond.selects RX7 yX7_isSign yX7_isSign ∈ aBIG := aBIG_of (List.mem_append_left _ (List.mem_of_getElem? (i := 54) (by decide +kernel))) rfl
theorem w_55 : Cond.selects RX7 yX7_name yX7_name ∈ aBIG := aBIG_of (List.mem_append_left _ (List.mem_of_getElem? (i := 55) (by decide +kernel))) rfl
theorem w_56 : Cond.selects RX7 yX7_added4 yX7_added4 ∈ aBIG := aBIG_of (List.mem_append_left _ (List.mem_of_getElem? (i := 56) (by decide +kernel))) rfl
theorem w_57 : Cond.selects RX7 yX7_term4 yX7_term4 ∈ aBIG := aBIG_of (List.mem_append_left _ (List.mem_of_getElem? (i := 57) (by decide +kernel))) rfl
theorem w_58 : Cond.selects RX7 yX7_atom4 yX7_atom4 ∈ aBIG := aBIG_of (List.mem_append_left _ (List.mem_of_getElem? (i := 58) (by decide +kernel))) rfl
theorem w_59 : Cond.selects RX7 yX7_either5 yX7_either5 ∈ aBIG := aBIG_of (List.mem_append_left _ (List.mem_of_getElem? (i := 59) (by decide +kernel))) rfl
theorem w_60 : Cond.selects RX7 yX7_both5 yX7_both5 ∈ aBIG := aBIG_of (List.mem_append_left _ (List.mem_of_getElem? (i := 60) (by decide +kernel))) rfl
theorem w_61 : Cond.selects RX7 yX7_added3 yX7_added3 ∈ aBIG := aBIG_of (List.mem_append_left _ (List.mem_of_getElem? (i := 61) (by decide +kernel))) rfl
theorem w_62 : Cond.selects RX7 yX7_term3 yX7_term3 ∈ aBIG := aBIG_of (List.mem_append_left _ (List.mem_of_getElem? (i := 62) (by decide +kernel))) rfl
theorem w_63 : Cond.selects RX7 yX7_atom3 yX7_atom3 ∈ aBIG := aBIG_of (List.mem_append_left _ (List.mem_of_getElem? (i := 63) (by decide +kernel))) rfl
theorem w_64 : Cond.selects RX7 yX7_either4 yX7_either4 ∈ aBIG := aBIG_of (List.mem_append_left _ (List.mem_of_getElem? (i := 64) (by decide +kernel))) rfl
theorem w_65 : Cond.selects RX7 yX7_both4 yX7_both4 ∈ aBIG := aBIG_of (List.mem_append_left _ (List.mem_of_getElem? (i := 65) (by decide +kernel))) rfl
theorem w_66 : Cond.selects RX7 yX7_added2 yX7_added2 ∈ aBIG := aBIG_of (List.mem_append_left _ (List.mem_of_getElem? (i := 66) (by decide +kernel))) rfl
theorem w_67 : Cond.selects RX7 yX7_term2 yX7_term2 ∈ aBIG := aBIG_of (List.mem_append_left _ (List.mem_of_getElem? (i := 67) (by decide +kernel))) rfl
theorem w_68 : Cond.selects RX7 yX7_atom2 yX7_atom2 ∈ aBIG := aBIG_of (List.mem_append_left _ (List.mem_of_getElem? (i := 68) (by decide +kernel))) rfl
theorem w_69 : Cond.selects RX7 yX7_either3 yX7_either3 ∈ aBIG := aBIG_of (List.mem_append_left _ (List.mem_of_getElem? (i := 69) (by decide +kernel))) rfl
theorem w_70 : Cond.selects RX7 yX7_both3 yX7_both3 ∈ aBIG := aBIG_of (List.mem_append_left _ (List.mem_of_getElem? (i := 70) (by decide +kernel))) rfl
theorem w_71 : Cond.selects RX7 yX7_added1 yX7_added1 ∈ aBIG := aBIG_of (List.mem_append_left _ (List.mem_of_getElem? (i := 71) (by decide +kernel))) rfl
theorem w_72 : Cond.selects RX7 yX7_term1 yX7_term1 ∈ aBIG := aBIG_of (List.mem_append_left _ (List.mem_of_getElem? (i := 72) (by decide +kernel))) rfl
theorem w_73 : Cond.selects RX7 yX7_atom1 yX7_atom1 ∈ aBIG := aBIG_of (List.mem_append_left _ (List.mem_of_getElem? (i := 73) (by decide +kernel))) rfl
theorem w_74 : Cond.selects RX7 yX7_either2 yX7_either2 ∈ aBIG := aBIG_of (List.mem_append_left _ (List.mem_of_getElem? (i := 74) (by decide +kernel))) rfl
theorem w_75 : Cond.selects RX7 yX7_both2 yX7_both2 ∈ aBIG := aBIG_of (List.mem_append_left _ (List.mem_of_getElem? (i := 75) (by decide +kernel))) rfl
theorem w_76 : Cond.selects RX7 yX7_added0 yX7_added0 ∈ aBIG := aBIG_of (List.mem_append_left _ (List.mem_of_getElem? (i := 76) (by decide +kernel))) rfl
theorem w_77 : Cond.selects RX7 yX7_term0 yX7_term0 ∈ aBIG := aBIG_of (List.mem_append_left _ (List.mem_of_getElem? (i := 77) (by decide +kernel))) rfl
theorem w_78 : Cond.selects RX7 yX7_atom0 yX7_atom0 ∈ aBIG := aBIG_of (List.mem_append_left _ (List.mem_of_getElem? (i := 78) (by decide +kernel))) rfl
theorem w_79 : Cond.selects RX7 yX7_either1 yX7_either1 ∈ aBIG := aBIG_of (List.mem_append_left _ (List.mem_of_getElem? (i := 79) (by decide +kernel))) rfl
theorem w_80 : Cond.selects RX7 yX7_both1 yX7_both1 ∈ aBIG := aBIG_of (List.mem_append_left _ (List.mem_of_getElem? (i := 80) (by decide +kernel))) rfl
theorem w_81 : Cond.selects RX7 yX7_managedMany yX7_managedMany ∈ aBIG := aBIG_of (List.mem_append_left _ (List.mem_of_getElem? (i := 81) (by decide +kernel))) rfl
theorem w_82 : Cond.selects RX7 yX7_lays yX7_lays ∈ aBIG := aBIG_of (List.mem_append_left _ (List.mem_of_getElem? (i := 82) (by decide +kernel))) rfl
theorem w_83 : Cond.selects RX7 yX7_learnsOf yX7_learnsOf ∈ aBIG := aBIG_of (List.mem_append_left _ (List.mem_of_getElem? (i := 83) (by decide +kernel))) rfl
theorem w_84 : Cond.selects RX7 yX7_forgetsOf yX7_forgetsOf ∈ aBIG := aBIG_of (List.mem_append_left _ (List.mem_of_getElem? (i := 84) (by decide +kernel))) rfl
theorem w_85 : Cond.selects RX7 yX7_drives yX7_drives ∈ aBIG := aBIG_of (List.mem_append_left _ (List.mem_of_getElem? (i := 85) (by decide +kernel))) rfl
theorem w_86 : Cond.selects RX7 yX7_sleeps yX7_sleeps ∈ aBIG := aBIG_of (List.mem_append_left _ (List.mem_of_getElem? (i := 86) (by decide +kernel))) rfl
theorem w_87 : Cond.selects RX7 yX7_readyMany yX7_readyMany ∈ aBIG := aBIG_of (List.mem_append_left _ (List.mem_of_getElem? (i := 87) (by decide +kernel))) rfl
theorem w_88 : Cond.selects RX7 yX7_laysAside yX7_laysAside ∈ aBIG := aBIG_of (List.mem_append_left _ (List.mem_of_getElem? (i := 88) (by decide +kernel))) rfl
theorem w_89 : Cond.selects RX7 yX7_skillsOf yX7_skillsOf ∈ aBIG := aBIG_of (List.mem_append_left _ (List.mem_of_getElem? (i := 89) (by decide +kernel))) rfl
theorem w_90 : Cond.selects RX7 yX7_laysBack yX7_laysBack ∈ aBIG := aBIG_of (List.mem_append_left _ (List.mem_of_getElem? (i := 90) (by decide +kernel))) rfl
theorem w_91 : Cond.selects RX7 yX7_weakest yX7_weakest ∈ aBIG := aBIG_of (List.mem_append_left _ (List.mem_of_getElem? (i := 91) (by decide +kernel))) rfl
theorem w_92 : Cond.selects RX7 yX7_firstOther yX7_firstOther ∈ aBIG := aBIG_of (List.mem_append_left _ (List.mem_of_getElem? (i := 92) (by decide +kernel))) rfl
theorem w_93 : Cond.selects RX7 yX7_helpsBy yX7_helpsBy ∈ aBIG := aBIG_of (List.mem_append_left _ (List.mem_of_getElem? (i := 93) (by decide +kernel))) rfl
theorem w_94 : Cond.selects RX7 yX7_passes yX7_passes ∈ aBIG := aBIG_of (List.mem_append_left _ (List.mem_of_getElem? (i := 94) (by decide +kernel))) rfl
theorem w_96 : Cond.initialized RX6 ∈ aBIG := aBIG_of (aT1 (List.mem_of_getElem? (i := 1) (by decide +kernel))) rfl
theorem w_97 : Cond.initialized RX1 ∈ aBIG := aBIG_of (aT1 (List.mem_of_getElem? (i := 2) (by decide +kernel))) rfl
theorem w_98 : Cond.initialized RX3 ∈ aBIG := aBIG_of (aT1 (List.mem_of_getElem? (i := 3) (by decide +kernel))) rfl
theorem w_99 : Cond.initialized RX0 ∈ aBIG := aBIG_of (aT1 (List.mem_of_getElem? (i := 4) (by decide +kernel))) rfl
theorem w_100 : Cond.initialized RX2 ∈ aBIG := aBIG_of (aT1 (List.mem_of_getElem? (i := 5) (by decide +kernel))) rfl
theorem w_101 : Cond.initialized RJ0 ∈ aBIG := aBIG_of (aT1 (List.mem_of_getElem? (i := 6) (by decide +kernel))) rfl
theorem w_102 : Cond.initialized RJ1 ∈ aBIG := aBIG_of (aT1 (List.mem_of_getElem? (i := 7) (by decide +kernel))) rfl
theorem w_103 : Cond.initialized RJ3 ∈ aBIG := aBIG_of (aT1 (List.mem_of_getElem? (i := 8) (by decide +kernel))) rfl
theorem w_105 : Cond.initialized RJ7 ∈ aBIG := aBIG_of (aT1 (List.mem_of_getElem? (i := 10) (by decide +kernel))) rfl
theorem w_106 : Cond.initialized "java/lang/System" ∈ aBIG := aBIG_of (aT1 (List.mem_of_getElem? (i := 11) (by decide +kernel))) rfl
theorem w_107 : Cond.initialized RX5 ∈ aBIG := aBIG_of (aT1 (List.mem_of_getElem? (i := 12) (by decide +kernel))) rfl
theorem w_108 : Cond.initialized RX4 ∈ aBIG := aBIG_of (aT1 (List.mem_of_getElem? (i := 13) (by decide +kernel))) rfl
theorem w_109 : Cond.initialized RX7 ∈ aBIG := aBIG_of (aT1 (List.mem_of_getElem? (i := 14) (by decide +kernel))) rfl
theorem w_110 : Cond.initialized "java/lang/Math" ∈ aBIG := aBIG_of (aT1 (List.mem_of_getElem? (i := 15) (by decide +kernel))) rfl
theorem w_111 : Cond.classLink RL 7 RX6 ∈ aBIG := aBIG_of (aT1 (List.mem_of_getElem? (i := 16) (by decide +kernel))) rfl
theorem w_112 : Cond.instantiable RX6 11 ∈ aBIG := aBIG_of (aT1 (List.mem_of_getElem? (i := 17) (by decide +kernel))) rfl
theorem w_113 : Cond.methodLink RL 9 yX6_init ∈ aBIG := aBIG_of (aT1 (List.mem_of_getElem? (i := 18) (by decide +kernel))) rfl
theorem w_114 : Cond.instanceMethod yX6_init ∈ aBIG := aBIG_of (aT1 (List.mem_of_getElem? (i := 19) (by decide +kernel))) rfl
theorem w_115 : Cond.code yX6_init cX6_init 2 none ∈ aBIG := aBIG_of (aT1 (List.mem_of_getElem? (i := 20) (by decide +kernel))) rfl
theorem w_116 : Cond.methodLink RX6 1 Lib.objectInit ∈ aBIG := aBIG_of (aT1 (List.mem_of_getElem? (i := 21) (by decide +kernel))) rfl
theorem w_117 : Cond.instanceMethod Lib.objectInit ∈ aBIG := aBIG_of (aT1 (List.mem_of_getElem? (i := 22) (by decide +kernel))) rfl
theorem w_118 : Cond.code Lib.objectInit ⟨#[0xb1]⟩ 1 none ∈ aBIG := aBIG_of (aT1 (List.mem_of_getElem? (i := 23) (by decide +kernel))) rfl
theorem w_119 : Cond.classLink RX6 9 RX3 ∈ aBIG := aBIG_of (aT1 (List.mem_of_getElem? (i := 24) (by decide +kernel))) rfl
theorem w_121 : Cond.classLink RX6 15 RX1 ∈ aBIG := aBIG_of (aT1 (List.mem_of_getElem? (i := 26) (by decide +kernel))) rfl
theorem w_122 : Cond.instantiable RX1 7 ∈ aBIG := aBIG_of (aT1 (List.mem_of_getElem? (i := 27) (by decide +kernel))) rfl
theorem w_123 : Cond.methodLink RX6 17 yX1_init ∈ aBIG := aBIG_of (aT1 (List.mem_of_getElem? (i := 28) (by decide +kernel))) rfl
theorem w_124 : Cond.instanceMethod yX1_init ∈ aBIG := aBIG_of (aT1 (List.mem_of_getElem? (i := 29) (by decide +kernel))) rfl
theorem w_125 : Cond.code yX1_init cX1_init 1 none ∈ aBIG := aBIG_of (aT1 (List.mem_of_getElem? (i := 30) (by decide +kernel))) rfl
theorem w_126 : Cond.methodLink RX1 3 Lib.objectInit ∈ aBIG := aBIG_of (aT1 (List.mem_of_getElem? (i := 31) (by decide +kernel))) rfl
theorem w_127 : Cond.classLink RX1 15 RX3 ∈ aBIG := aBIG_of (aT1 (List.mem_of_getElem? (i := 32) (by decide +kernel))) rfl
theorem w_128 : Cond.instantiable RX3 5 ∈ aBIG := aBIG_of (aT1 (List.mem_of_getElem? (i := 33) (by decide +kernel))) rfl
theorem w_129 : Cond.methodLink RX1 17 yX3_init ∈ aBIG := aBIG_of (aT1 (List.mem_of_getElem? (i := 34) (by decide +kernel))) rfl
theorem w_130 : Cond.instanceMethod yX3_init ∈ aBIG := aBIG_of (aT1 (List.mem_of_getElem? (i := 35) (by decide +kernel))) rfl
theorem w_131 : Cond.code yX3_init cX3_init 2 none ∈ aBIG := aBIG_of (aT1 (List.mem_of_getElem? (i := 36) (by decide +kernel))) rfl
theorem w_132 : Cond.methodLink RX3 3 Lib.objectInit ∈ aBIG := aBIG_of (aT1 (List.mem_of_getElem? (i := 37) (by decide +kernel))) rfl
theorem w_133 : Cond.fieldLink RX3 21 (TX3 0).1 (TX3 0).2.1 (TX3 0).2.2.1 ∈ aBIG := aBIG_of (aT1 (List.mem_of_getElem? (i := 38) (by decide +kernel))) rfl
theorem w_134 : Cond.fieldLink RX6 159 (TX3 0).1 (TX3 0).2.1 (TX3 0).2.2.1 ∈ aBIG := aBIG_of (aT1 (List.mem_of_getElem? (i := 39) (by decide +kernel))) rfl
theorem w_135 : Cond.fieldLink RX3 9 (TX3 1).1 (TX3 1).2.1 (TX3 1).2.2.1 ∈ aBIG := aBIG_of (aT1 (List.mem_of_getElem? (i := 40) (by decide +kernel))) rfl
theorem w_136 : Cond.fieldLink RX3 15 (TX3 2).1 (TX3 2).2.1 (TX3 2).2.2.1 ∈ aBIG := aBIG_of (aT1 (List.mem_of_getElem? (i := 41) (by decide +kernel))) rfl
theorem w_137 : Cond.fieldLink RX3 18 (TX3 3).1 (TX3 3).2.1 (TX3 3).2.2.1 ∈ aBIG := aBIG_of (aT1 (List.mem_of_getElem? (i := 42) (by decide +kernel))) rfl
theorem w_138 : Cond.fieldLink RX3 25 (TX3 4).1 (TX3 4).2.1 (TX3 4).2.2.1 ∈ aBIG := aBIG_of (aT1 (List.mem_of_getElem? (i := 43) (by decide +kernel))) rfl
theorem w_150 : Cond.arrayClass .int ∈ aBIG := aBIG_of (aT1 (List.mem_of_getElem? (i := 55) (by decide +kernel))) rfl
theorem w_151 : Cond.fieldLink RX1 24 (TX1 0).1 (TX1 0).2.1 (TX1 0).2.2.1 ∈ aBIG := aBIG_of (aT1 (List.mem_of_getElem? (i := 56) (by decide +kernel))) rfl
theorem w_152 : Cond.fieldLink RX6 148 (TX1 0).1 (TX1 0).2.1 (TX1 0).2.2.1 ∈ aBIG := aBIG_of (aT1 (List.mem_of_getElem? (i := 57) (by decide +kernel))) rfl
theorem w_153 : Cond.fieldLink RX1 9 (TX1 1).1 (TX1 1).2.1 (TX1 1).2.2.1 ∈ aBIG := aBIG_of (aT1 (List.mem_of_getElem? (i := 58) (by decide +kernel))) rfl
theorem w_154 : Cond.fieldLink RX1 20 (TX1 2).1 (TX1 2).2.1 (TX1 2).2.2.1 ∈ aBIG := aBIG_of (aT1 (List.mem_of_getElem? (i := 59) (by decide +kernel))) rfl
theorem w_155 : Cond.fieldLink RX1 41 (TX1 3).1 (TX1 3).2.1 (TX1 3).2.2.1 ∈ aBIG := aBIG_of (aT1 (List.mem_of_getElem? (i := 60) (by decide +kernel))) rfl
theorem w_156 : Cond.fieldLink RX1 44 (TX1 4).1 (TX1 4).2.1 (TX1 4).2.2.1 ∈ aBIG := aBIG_of (aT1 (List.mem_of_getElem? (i := 61) (by decide +kernel))) rfl
theorem w_157 : Cond.fieldLink RX1 31 (TX1 5).1 (TX1 5).2.1 (TX1 5).2.2.1 ∈ aBIG := aBIG_of (aT1 (List.mem_of_getElem? (i := 62) (by decide +kernel))) rfl
theorem w_158 : Cond.fieldLink RX1 79 (TX1 6).1 (TX1 6).2.1 (TX1 6).2.2.1 ∈ aBIG := aBIG_of (aT1 (List.mem_of_getElem? (i := 63) (by decide +kernel))) rfl
theorem w_174 : Cond.classLink RX6 22 RX0 ∈ aBIG := aBIG_of (aT1 (List.mem_of_getElem? (i := 79) (by decide +kernel))) rfl
theorem w_176 : Cond.classLink RX6 35 RX2 ∈ aBIG := aBIG_of (aT1 (List.mem_of_getElem? (i := 81) (by decide +kernel))) rfl
theorem w_178 : Cond.methodLink RX6 41 yX3_init ∈ aBIG := aBIG_of (aT1 (List.mem_of_getElem? (i := 83) (by decide +kernel))) rfl
theorem w_179 : Cond.instantiable RX0 5 ∈ aBIG := aBIG_of (aT1 (List.mem_of_getElem? (i := 84) (by decide +kernel))) rfl
theorem w_180 : Cond.methodLink RX6 44 yX0_init ∈ aBIG := aBIG_of (aT1 (List.mem_of_getElem? (i := 85) (by decide +kernel))) rfl
theorem w_181 : Cond.instanceMethod yX0_init ∈ aBIG := aBIG_of (aT1 (List.mem_of_getElem? (i := 86) (by decide +kernel))) rfl
theorem w_182 : Cond.code yX0_init cX0_init 1 none ∈ aBIG := aBIG_of (aT1 (List.mem_of_getElem? (i := 87) (by decide +kernel))) rfl
theorem w_183 : Cond.methodLink RX0 3 Lib.objectInit ∈ aBIG := aBIG_of (aT1 (List.mem_of_getElem? (i := 88) (by decide +kernel))) rfl
theorem w_184 : Cond.fieldLink RX0 15 (TX0 0).1 (TX0 0).2.1 (TX0 0).2.2.1 ∈ aBIG := aBIG_of (aT1 (List.mem_of_getElem? (i := 89) (by decide +kernel))) rfl
theorem w_185 : Cond.fieldLink RX6 249 (TX0 0).1 (TX0 0).2.1 (TX0 0).2.2.1 ∈ aBIG := aBIG_of (aT1 (List.mem_of_getElem? (i := 90) (by decide +kernel))) rfl
theorem w_186 : Cond.fieldLink RX0 19 (TX0 1).1 (TX0 1).2.1 (TX0 1).2.2.1 ∈ aBIG := aBIG_of (aT1 (List.mem_of_getElem? (i := 91) (by decide +kernel))) rfl
theorem w_187 : Cond.fieldLink RX5 45 (TX0 1).1 (TX0 1).2.1 (TX0 1).2.2.1 ∈ aBIG := aBIG_of (aT1 (List.mem_of_getElem? (i := 92) (by decide +kernel))) rfl
theorem w_188 : Cond.fieldLink RX6 252 (TX0 1).1 (TX0 1).2.1 (TX0 1).2.2.1 ∈ aBIG := aBIG_of (aT1 (List.mem_of_getElem? (i := 93) (by decide +kernel))) rfl
theorem w_189 : Cond.fieldLink RX0 22 (TX0 2).1 (TX0 2).2.1 (TX0 2).2.2.1 ∈ aBIG := aBIG_of (aT1 (List.mem_of_getElem? (i := 94) (by decide +kernel))) rfl
theorem w_190 : Cond.fieldLink RX5 48 (TX0 2).1 (TX0 2).2.1 (TX0 2).2.2.1 ∈ aBIG := aBIG_of (aT1 (List.mem_of_getElem? (i := 95) (by decide +kernel))) rfl
theorem w_191 : Cond.fieldLink RX0 25 (TX0 3).1 (TX0 3).2.1 (TX0 3).2.2.1 ∈ aBIG := aBIG_of (aT1 (List.mem_of_getElem? (i := 96) (by decide +kernel))) rfl
theorem w_192 : Cond.fieldLink RX4 68 (TX0 3).1 (TX0 3).2.1 (TX0 3).2.2.1 ∈ aBIG := aBIG_of (aT1 (List.mem_of_getElem? (i := 97) (by decide +kernel))) rfl
theorem w_193 : Cond.fieldLink RX5 85 (TX0 3).1 (TX0 3).2.1 (TX0 3).2.2.1 ∈ aBIG := aBIG_of (aT1 (List.mem_of_getElem? (i := 98) (by decide +kernel))) rfl
theorem w_194 : Cond.fieldLink RX6 275 (TX0 3).1 (TX0 3).2.1 (TX0 3).2.2.1 ∈ aBIG := aBIG_of (aT1 (List.mem_of_getElem? (i := 99) (by decide +kernel))) rfl
theorem w_195 : Cond.fieldLink RX0 9 (TX0 4).1 (TX0 4).2.1 (TX0 4).2.2.1 ∈ aBIG := aBIG_of (aT1 (List.mem_of_getElem? (i := 100) (by decide +kernel))) rfl
theorem w_196 : Cond.fieldLink RX5 40 (TX0 4).1 (TX0 4).2.1 (TX0 4).2.2.1 ∈ aBIG := aBIG_of (aT1 (List.mem_of_getElem? (i := 101) (by decide +kernel))) rfl
theorem w_197 : Cond.fieldLink RX4 98 (TX0 4).1 (TX0 4).2.1 (TX0 4).2.2.1 ∈ aBIG := aBIG_of (aT1 (List.mem_of_getElem? (i := 102) (by decide +kernel))) rfl
theorem w_198 : Cond.fieldLink RX6 169 (TX0 4).1 (TX0 4).2.1 (TX0 4).2.2.1 ∈ aBIG := aBIG_of (aT1 (List.mem_of_getElem? (i := 103) (by decide +kernel))) rfl
theorem w_210 : Cond.instantiable RX2 3 ∈ aBIG := aBIG_of (aT1 (List.mem_of_getElem? (i := 115) (by decide +kernel))) rfl
theorem w_211 : Cond.methodLink RX6 45 yX2_init ∈ aBIG := aBIG_of (aT1 (List.mem_of_getElem? (i := 116) (by decide +kernel))) rfl
theorem w_212 : Cond.instanceMethod yX2_init ∈ aBIG := aBIG_of (aT1 (List.mem_of_getElem? (i := 117) (by decide +kernel))) rfl
theorem w_213 : Cond.code yX2_init cX2_init 1 none ∈ aBIG := aBIG_of (aT1 (List.mem_of_getElem? (i := 118) (by decide +kernel))) rfl
theorem w_214 : Cond.methodLink RX2 3 Lib.objectInit ∈ aBIG := aBIG_of (aT1 (List.mem_of_getElem? (i := 119) (by decide +kernel))) rfl
theorem w_215 : Cond.fieldLink RX2 9 (TX2 0).1 (TX2 0).2.1 (TX2 0).2.2.1 ∈ aBIG := aBIG_of (aT1 (List.mem_of_getElem? (i := 120) (by decide +kernel))) rfl
theorem w_216 : Cond.fieldLink RX6 229 (TX2 0).1 (TX2 0).2.1 (TX2 0).2.2.1 ∈ aBIG := aBIG_of (aT1 (List.mem_of_getElem? (i := 121) (by decide +kernel))) rfl
theorem w_217 : Cond.fieldLink RX2 23 (TX2 1).1 (TX2 1).2.1 (TX2 1).2.2.1 ∈ aBIG := aBIG_of (aT1 (List.mem_of_getElem? (i := 122) (by decide +kernel))) rfl
theorem w_218 : Cond.fieldLink RX4 89 (TX2 1).1 (TX2 1).2.1 (TX2 1).2.2.1 ∈ aBIG := aBIG_of (aT1 (List.mem_of_getElem? (i := 123) (by decide +kernel))) rfl
theorem w_219 : Cond.fieldLink RX2 15 (TX2 2).1 (TX2 2).2.1 (TX2 2).2.2.1 ∈ aBIG := aBIG_of (aT1 (List.mem_of_getElem? (i := 124) (by decide +kernel))) rfl
theorem w_220 : Cond.fieldLink RX4 94 (TX2 2).1 (TX2 2).2.1 (TX2 2).2.2.1 ∈ aBIG := aBIG_of (aT1 (List.mem_of_getElem? (i := 125) (by decide +kernel))) rfl
theorem w_221 : Cond.fieldLink RX6 283 (TX2 2).1 (TX2 2).2.1 (TX2 2).2.2.1 ∈ aBIG := aBIG_of (aT1 (List.mem_of_getElem? (i := 126) (by decide +kernel))) rfl
theorem w_230 : Cond.methodLink RX6 48 yJ0_length_8abf5 ∈ aBIG := aBIG_of (aT1 (List.mem_of_getElem? (i := 135) (by decide +kernel))) rfl
theorem w_231 : Cond.instanceMethod yJ0_length_8abf5 ∈ aBIG := aBIG_of (aT1 (List.mem_of_getElem? (i := 136) (by decide +kernel))) rfl
theorem w_232 : Cond.selects RJ0 yJ0_length_8abf5 yJ0_length_8abf5 ∈ aBIG := aBIG_of (aT1 (List.mem_of_getElem? (i := 137) (by decide +kernel))) rfl
theorem w_233 : Cond.code yJ0_length_8abf5 cJ0_length_8abf5 1 (some .int) ∈ aBIG := aBIG_of (aT1 (List.mem_of_getElem? (i := 138) (by decide +kernel))) rfl
theorem w_234 : Cond.methodLink RJ0 335 yJ0_coder_7d493 ∈ aBIG := aBIG_of (aT1 (List.mem_of_getElem? (i := 139) (by decide +kernel))) rfl
theorem w_235 : Cond.instanceMethod yJ0_coder_7d493 ∈ aBIG := aBIG_of (aT1 (List.mem_of_getElem? (i := 140) (by decide +kernel))) rfl
theorem w_236 : Cond.selects RJ0 yJ0_coder_7d493 yJ0_coder_7d493 ∈ aBIG := aBIG_of (aT1 (List.mem_of_getElem? (i := 141) (by decide +kernel))) rfl
theorem w_237 : Cond.code yJ0_coder_7d493 cJ0_coder_7d493 1 (some .byte) ∈ aBIG := aBIG_of (aT1 (List.mem_of_getElem? (i := 142) (by decide +kernel))) rfl
theorem w_238 : Cond.fieldLink RJ0 38 "java/lang/String" "COMPACT_STRINGS" "Z" ∈ aBIG := aBIG_of (aT1 (List.mem_of_getElem? (i := 143) (by decide +kernel))) rfl
theorem w_240 : Cond.methodLink RX6 54 yJ0_charAt_5068e ∈ aBIG := aBIG_of (aT1 (List.mem_of_getElem? (i := 145) (by decide +kernel))) rfl
theorem w_241 : Cond.instanceMethod yJ0_charAt_5068e ∈ aBIG := aBIG_of (aT1 (List.mem_of_getElem? (i := 146) (by decide +kernel))) rfl
theorem w_242 : Cond.selects RJ0 yJ0_charAt_5068e yJ0_charAt_5068e ∈ aBIG := aBIG_of (aT1 (List.mem_of_getElem? (i := 147) (by decide +kernel))) rfl
theorem w_243 : Cond.code yJ0_charAt_5068e cJ0_charAt_5068e 2 (some .char) ∈ aBIG := aBIG_of (aT1 (List.mem_of_getElem? (i := 148) (by decide +kernel))) rfl
theorem w_244 : Cond.methodLink RJ0 492 yJ0_isLatin1_aae02 ∈ aBIG := aBIG_of (aT1 (List.mem_of_getElem? (i := 149) (by decide +kernel))) rfl
theorem w_245 : Cond.instanceMethod yJ0_isLatin1_aae02 ∈ aBIG := aBIG_of (aT1 (List.mem_of_getElem? (i := 150) (by decide +kernel))) rfl
theorem w_246 : Cond.selects RJ0 yJ0_isLatin1_aae02 yJ0_isLatin1_aae02 ∈ aBIG := aBIG_of (aT1 (List.mem_of_getElem? (i := 151) (by decide +kernel))) rfl
theorem w_247 : Cond.code yJ0_isLatin1_aae02 cJ0_isLatin1_aae02 1 (some .boolean) ∈ aBIG := aBIG_of (aT1 (List.mem_of_getElem? (i := 152) (by decide +kernel))) rfl
theorem w_248 : Cond.methodLink RJ0 495 yJ1_charAt_3b067 ∈ aBIG := aBIG_of (aT1 (List.mem_of_getElem? (i := 153) (by decide +kernel))) rfl
theorem w_249 : Cond.static yJ1_charAt_3b067 ∈ aBIG := aBIG_of (aT1 (List.mem_of_getElem? (i := 154) (by decide +kernel))) rfl
theorem w_250 : Cond.code yJ1_charAt_3b067 cJ1_charAt_3b067 2 (some .char) ∈ aBIG := aBIG_of (aT1 (List.mem_of_getElem? (i := 155) (by decide +kernel))) rfl
theorem w_251 : Cond.methodLink RJ1 9 yJ0_checkIndex_df160 ∈ aBIG := aBIG_of (aT1 (List.mem_of_getElem? (i := 156) (by decide +kernel))) rfl
theorem w_252 : Cond.static yJ0_checkIndex_df160 ∈ aBIG := aBIG_of (aT1 (List.mem_of_getElem? (i := 157) (by decide +kernel))) rfl
theorem w_253 : Cond.code yJ0_checkIndex_df160 cJ0_checkIndex_df160 2 none ∈ aBIG := aBIG_of (aT1 (List.mem_of_getElem? (i := 158) (by decide +kernel))) rfl
theorem w_254 : Cond.fieldLink RJ0 1053 "jdk/internal/util/Preconditions" "SIOOBE_FORMATTER" "Ljava/util/function/BiFunction;" ∈ aBIG := aBIG_of (aT1 (List.mem_of_getElem? (i := 159) (by decide +kernel))) rfl
theorem w_256 : Cond.methodLink RJ0 1059 yJ3_checkIndex_8e157 ∈ aBIG := aBIG_of (aT1 (List.mem_of_getElem? (i := 161) (by decide +kernel))) rfl
theorem w_257 : Cond.static yJ3_checkIndex_8e157 ∈ aBIG := aBIG_of (aT1 (List.mem_of_getElem? (i := 162) (by decide +kernel))) rfl
theorem w_258 : Cond.code yJ3_checkIndex_8e157 cJ3_checkIndex_8e157 3 (some .int) ∈ aBIG := aBIG_of (aT1 (List.mem_of_getElem? (i := 163) (by decide +kernel))) rfl
theorem w_259 : Cond.methodLink RJ0 498 yJ2_charAt_3b067 ∈ aBIG := aBIG_of (aT1 (List.mem_of_getElem? (i := 164) (by decide +kernel))) rfl
theorem w_278 : Cond.methodLink RX6 58 yX1_take ∈ aBIG := aBIG_of (aT1 (List.mem_of_getElem? (i := 183) (by decide +kernel))) rfl
theorem w_279 : Cond.instanceMethod yX1_take ∈ aBIG := aBIG_of (aT1 (List.mem_of_getElem? (i := 184) (by decide +kernel))) rfl
theorem w_280 : Cond.selects RX1 yX1_take yX1_take ∈ aBIG := aBIG_of (aT1 (List.mem_of_getElem? (i := 185) (by decide +kernel))) rfl
theorem w_281 : Cond.code yX1_take cX1_take 2 (some .boolean) ∈ aBIG := aBIG_of (aT1 (List.mem_of_getElem? (i := 186) (by decide +kernel))) rfl
theorem w_282 : Cond.methodLink RX6 62 yX1_readInto ∈ aBIG := aBIG_of (aT1 (List.mem_of_getElem? (i := 187) (by decide +kernel))) rfl
theorem w_283 : Cond.instanceMethod yX1_readInto ∈ aBIG := aBIG_of (aT1 (List.mem_of_getElem? (i := 188) (by decide +kernel))) rfl
theorem w_284 : Cond.selects RX1 yX1_readInto yX1_readInto ∈ aBIG := aBIG_of (aT1 (List.mem_of_getElem? (i := 189) (by decide +kernel))) rfl
theorem w_285 : Cond.code yX1_readInto cX1_readInto 3 (some .int) ∈ aBIG := aBIG_of (aT1 (List.mem_of_getElem? (i := 190) (by decide +kernel))) rfl
theorem w_286 : Cond.methodLink RX1 28 yX3_empty ∈ aBIG := aBIG_of (aT1 (List.mem_of_getElem? (i := 191) (by decide +kernel))) rfl
theorem w_287 : Cond.instanceMethod yX3_empty ∈ aBIG := aBIG_of (aT1 (List.mem_of_getElem? (i := 192) (by decide +kernel))) rfl
theorem w_288 : Cond.selects RX3 yX3_empty yX3_empty ∈ aBIG := aBIG_of (aT1 (List.mem_of_getElem? (i := 193) (by decide +kernel))) rfl
theorem w_289 : Cond.code yX3_empty cX3_empty 1 none ∈ aBIG := aBIG_of (aT1 (List.mem_of_getElem? (i := 194) (by decide +kernel))) rfl
theorem w_290 : Cond.methodLink RX3 28 yJ7_fill_53178 ∈ aBIG := aBIG_of (aT1 (List.mem_of_getElem? (i := 195) (by decide +kernel))) rfl
theorem w_291 : Cond.static yJ7_fill_53178 ∈ aBIG := aBIG_of (aT1 (List.mem_of_getElem? (i := 196) (by decide +kernel))) rfl
theorem w_292 : Cond.code yJ7_fill_53178 cJ7_fill_53178 4 none ∈ aBIG := aBIG_of (aT1 (List.mem_of_getElem? (i := 197) (by decide +kernel))) rfl
theorem w_293 : Cond.methodLink RX1 34 yX1_step ∈ aBIG := aBIG_of (aT1 (List.mem_of_getElem? (i := 198) (by decide +kernel))) rfl
theorem w_295 : Cond.instanceMethod yX1_step ∈ aBIG := aBIG_of (aT1 (List.mem_of_getElem? (i := 200) (by decide +kernel))) rfl
theorem w_296 : Cond.code yX1_step cX1_step 2 none ∈ aBIG := aBIG_of (aT1 (List.mem_of_getElem? (i := 201) (by decide +kernel))) rfl
theorem w_297 : Cond.methodLink RX1 82 yX1_byteAt ∈ aBIG := aBIG_of (aT1 (List.mem_of_getElem? (i := 202) (by decide +kernel))) rfl
theorem w_299 : Cond.instanceMethod yX1_byteAt ∈ aBIG := aBIG_of (aT1 (List.mem_of_getElem? (i := 204) (by decide +kernel))) rfl
theorem w_300 : Cond.code yX1_byteAt cX1_byteAt 2 (some .int) ∈ aBIG := aBIG_of (aT1 (List.mem_of_getElem? (i := 205) (by decide +kernel))) rfl
theorem w_301 : Cond.methodLink RX1 86 yX1_skip ∈ aBIG := aBIG_of (aT1 (List.mem_of_getElem? (i := 206) (by decide +kernel))) rfl
theorem w_303 : Cond.instanceMethod yX1_skip ∈ aBIG := aBIG_of (aT1 (List.mem_of_getElem? (i := 208) (by decide +kernel))) rfl
theorem w_304 : Cond.code yX1_skip cX1_skip 4 none ∈ aBIG := aBIG_of (aT1 (List.mem_of_getElem? (i := 209) (by decide +kernel))) rfl
theorem w_305 : Cond.methodLink RX1 90 yX1_wordAt ∈ aBIG := aBIG_of (aT1 (List.mem_of_getElem? (i := 210) (by decide +kernel))) rfl
theorem w_307 : Cond.instanceMethod yX1_wordAt ∈ aBIG := aBIG_of (aT1 (List.mem_of_getElem? (i := 212) (by decide +kernel))) rfl
theorem w_308 : Cond.code yX1_wordAt cX1_wordAt 1 (some .int) ∈ aBIG := aBIG_of (aT1 (List.mem_of_getElem? (i := 213) (by decide +kernel))) rfl
theorem w_310 : Cond.methodLink RX1 102 yX1_reads ∈ aBIG := aBIG_of (aT1 (List.mem_of_getElem? (i := 215) (by decide +kernel))) rfl
theorem w_312 : Cond.instanceMethod yX1_reads ∈ aBIG := aBIG_of (aT1 (List.mem_of_getElem? (i := 217) (by decide +kernel))) rfl
theorem w_313 : Cond.code yX1_reads cX1_reads 3 (some .boolean) ∈ aBIG := aBIG_of (aT1 (List.mem_of_getElem? (i := 218) (by decide +kernel))) rfl
theorem w_314 : Cond.methodLink RX1 128 yJ0_length_8abf5 ∈ aBIG := aBIG_of (aT1 (List.mem_of_getElem? (i := 219) (by decide +kernel))) rfl
theorem w_315 : Cond.methodLink RX1 133 yJ0_charAt_5068e ∈ aBIG := aBIG_of (aT1 (List.mem_of_getElem? (i := 220) (by decide +kernel))) rfl
theorem w_327 : Cond.methodLink RX1 94 yX1_numberAt ∈ aBIG := aBIG_of (aT1 (List.mem_of_getElem? (i := 232) (by decide +kernel))) rfl
theorem w_329 : Cond.instanceMethod yX1_numberAt ∈ aBIG := aBIG_of (aT1 (List.mem_of_getElem? (i := 234) (by decide +kernel))) rfl
theorem w_330 : Cond.code yX1_numberAt cX1_numberAt 2 (some .int) ∈ aBIG := aBIG_of (aT1 (List.mem_of_getElem? (i := 235) (by decide +kernel))) rfl
theorem w_331 : Cond.methodLink RX1 97 yX1_signAt ∈ aBIG := aBIG_of (aT1 (List.mem_of_getElem? (i := 236) (by decide +kernel))) rfl
theorem w_333 : Cond.instanceMethod yX1_signAt ∈ aBIG := aBIG_of (aT1 (List.mem_of_getElem? (i := 238) (by decide +kernel))) rfl
theorem w_334 : Cond.code yX1_signAt cX1_signAt 2 (some .int) ∈ aBIG := aBIG_of (aT1 (List.mem_of_getElem? (i := 239) (by decide +kernel))) rfl
theorem w_335 : Cond.methodLink RX1 37 yX1_readPart ∈ aBIG := aBIG_of (aT2 (List.mem_of_getElem? (i := 0) (by decide +kernel))) rfl
theorem w_337 : Cond.instanceMethod yX1_readPart ∈ aBIG := aBIG_of (aT2 (List.mem_of_getElem? (i := 2) (by decide +kernel))) rfl
theorem w_338 : Cond.code yX1_readPart cX1_readPart 3 (some .boolean) ∈ aBIG := aBIG_of (aT2 (List.mem_of_getElem? (i := 3) (by decide +kernel))) rfl
theorem w_339 : Cond.methodLink RX1 51 yX1_readOr ∈ aBIG := aBIG_of (aT2 (List.mem_of_getElem? (i := 4) (by decide +kernel))) rfl
theorem w_341 : Cond.instanceMethod yX1_readOr ∈ aBIG := aBIG_of (aT2 (List.mem_of_getElem? (i := 6) (by decide +kernel))) rfl
theorem w_342 : Cond.code yX1_readOr cX1_readOr 3 (some .boolean) ∈ aBIG := aBIG_of (aT2 (List.mem_of_getElem? (i := 7) (by decide +kernel))) rfl
theorem w_343 : Cond.methodLink RX1 58 yX1_readAnd ∈ aBIG := aBIG_of (aT2 (List.mem_of_getElem? (i := 8) (by decide +kernel))) rfl
theorem w_345 : Cond.instanceMethod yX1_readAnd ∈ aBIG := aBIG_of (aT2 (List.mem_of_getElem? (i := 10) (by decide +kernel))) rfl
theorem w_346 : Cond.code yX1_readAnd cX1_readAnd 3 (some .boolean) ∈ aBIG := aBIG_of (aT2 (List.mem_of_getElem? (i := 11) (by decide +kernel))) rfl
theorem w_347 : Cond.methodLink RX1 64 yX1_readNot ∈ aBIG := aBIG_of (aT2 (List.mem_of_getElem? (i := 12) (by decide +kernel))) rfl
theorem w_349 : Cond.instanceMethod yX1_readNot ∈ aBIG := aBIG_of (aT2 (List.mem_of_getElem? (i := 14) (by decide +kernel))) rfl
theorem w_350 : Cond.code yX1_readNot cX1_readNot 2 (some .boolean) ∈ aBIG := aBIG_of (aT2 (List.mem_of_getElem? (i := 15) (by decide +kernel))) rfl
theorem w_351 : Cond.methodLink RX1 67 yX1_readLike ∈ aBIG := aBIG_of (aT2 (List.mem_of_getElem? (i := 16) (by decide +kernel))) rfl
theorem w_353 : Cond.instanceMethod yX1_readLike ∈ aBIG := aBIG_of (aT2 (List.mem_of_getElem? (i := 18) (by decide +kernel))) rfl
theorem w_354 : Cond.code yX1_readLike cX1_readLike 3 (some .boolean) ∈ aBIG := aBIG_of (aT2 (List.mem_of_getElem? (i := 19) (by decide +kernel))) rfl
theorem w_355 : Cond.methodLink RX1 70 yX1_readSum ∈ aBIG := aBIG_of (aT2 (List.mem_of_getElem? (i := 20) (by decide +kernel))) rfl
theorem w_357 : Cond.instanceMethod yX1_readSum ∈ aBIG := aBIG_of (aT2 (List.mem_of_getElem? (i := 22) (by decide +kernel))) rfl
theorem w_358 : Cond.code yX1_readSum cX1_readSum 4 (some .boolean) ∈ aBIG := aBIG_of (aT2 (List.mem_of_getElem? (i := 23) (by decide +kernel))) rfl
theorem w_359 : Cond.methodLink RX1 73 yX1_readTerm ∈ aBIG := aBIG_of (aT2 (List.mem_of_getElem? (i := 24) (by decide +kernel))) rfl
theorem w_361 : Cond.instanceMethod yX1_readTerm ∈ aBIG := aBIG_of (aT2 (List.mem_of_getElem? (i := 26) (by decide +kernel))) rfl
theorem w_362 : Cond.code yX1_readTerm cX1_readTerm 3 (some .boolean) ∈ aBIG := aBIG_of (aT2 (List.mem_of_getElem? (i := 27) (by decide +kernel))) rfl
theorem w_363 : Cond.methodLink RX1 76 yX1_readOne ∈ aBIG := aBIG_of (aT2 (List.mem_of_getElem? (i := 28) (by decide +kernel))) rfl
theorem w_365 : Cond.instanceMethod yX1_readOne ∈ aBIG := aBIG_of (aT2 (List.mem_of_getElem? (i := 30) (by decide +kernel))) rfl
theorem w_366 : Cond.code yX1_readOne cX1_readOne 3 (some .boolean) ∈ aBIG := aBIG_of (aT2 (List.mem_of_getElem? (i := 31) (by decide +kernel))) rfl
theorem w_367 : Cond.methodLink RX1 61 yX3_add ∈ aBIG := aBIG_of (aT2 (List.mem_of_getElem? (i := 32) (by decide +kernel))) rfl
theorem w_368 : Cond.instanceMethod yX3_add ∈ aBIG := aBIG_of (aT2 (List.mem_of_getElem? (i := 33) (by decide +kernel))) rfl
theorem w_369 : Cond.selects RX3 yX3_add yX3_add ∈ aBIG := aBIG_of (aT2 (List.mem_of_getElem? (i := 34) (by decide +kernel))) rfl
theorem w_370 : Cond.code yX3_add cX3_add 2 none ∈ aBIG := aBIG_of (aT2 (List.mem_of_getElem? (i := 35) (by decide +kernel))) rfl
theorem w_371 : Cond.methodLink RX1 55 yX3_endPart ∈ aBIG := aBIG_of (aT2 (List.mem_of_getElem? (i := 36) (by decide +kernel))) rfl
theorem w_372 : Cond.instanceMethod yX3_endPart ∈ aBIG := aBIG_of (aT2 (List.mem_of_getElem? (i := 37) (by decide +kernel))) rfl
theorem w_373 : Cond.selects RX3 yX3_endPart yX3_endPart ∈ aBIG := aBIG_of (aT2 (List.mem_of_getElem? (i := 38) (by decide +kernel))) rfl
theorem w_374 : Cond.code yX3_endPart cX3_endPart 2 none ∈ aBIG := aBIG_of (aT2 (List.mem_of_getElem? (i := 39) (by decide +kernel))) rfl
theorem w_375 : Cond.methodLink RX1 47 yX3_become ∈ aBIG := aBIG_of (aT2 (List.mem_of_getElem? (i := 40) (by decide +kernel))) rfl
theorem w_376 : Cond.instanceMethod yX3_become ∈ aBIG := aBIG_of (aT2 (List.mem_of_getElem? (i := 41) (by decide +kernel))) rfl
theorem w_377 : Cond.selects RX3 yX3_become yX3_become ∈ aBIG := aBIG_of (aT2 (List.mem_of_getElem? (i := 42) (by decide +kernel))) rfl
theorem w_378 : Cond.code yX3_become cX3_become 2 none ∈ aBIG := aBIG_of (aT2 (List.mem_of_getElem? (i := 43) (by decide +kernel))) rfl
theorem w_379 : Cond.methodLink RX3 34 arraycopyName ∈ aBIG := aBIG_of (aT2 (List.mem_of_getElem? (i := 44) (by decide +kernel))) rfl
theorem w_380 : Cond.static arraycopyName ∈ aBIG := aBIG_of (aT2 (List.mem_of_getElem? (i := 45) (by decide +kernel))) rfl
theorem w_381 : Cond.native arraycopyName ∈ aBIG := aBIG_of (aT2 (List.mem_of_getElem? (i := 46) (by decide +kernel))) rfl
theorem w_382 : Cond.classLink RX6 69 RX5 ∈ aBIG := aBIG_of (aT2 (List.mem_of_getElem? (i := 47) (by decide +kernel))) rfl
theorem w_383 : Cond.instantiable RX5 4 ∈ aBIG := aBIG_of (aT2 (List.mem_of_getElem? (i := 48) (by decide +kernel))) rfl
theorem w_384 : Cond.methodLink RX6 71 yX5_init ∈ aBIG := aBIG_of (aT2 (List.mem_of_getElem? (i := 49) (by decide +kernel))) rfl
theorem w_385 : Cond.instanceMethod yX5_init ∈ aBIG := aBIG_of (aT2 (List.mem_of_getElem? (i := 50) (by decide +kernel))) rfl
theorem w_386 : Cond.code yX5_init cX5_init 2 none ∈ aBIG := aBIG_of (aT2 (List.mem_of_getElem? (i := 51) (by decide +kernel))) rfl
theorem w_387 : Cond.methodLink RX5 3 Lib.objectInit ∈ aBIG := aBIG_of (aT2 (List.mem_of_getElem? (i := 52) (by decide +kernel))) rfl
theorem w_388 : Cond.methodLink RX5 24 yJ7_fill_53178 ∈ aBIG := aBIG_of (aT2 (List.mem_of_getElem? (i := 53) (by decide +kernel))) rfl
theorem w_389 : Cond.fieldLink RX5 9 (TX5 0).1 (TX5 0).2.1 (TX5 0).2.2.1 ∈ aBIG := aBIG_of (aT2 (List.mem_of_getElem? (i := 54) (by decide +kernel))) rfl
theorem w_390 : Cond.fieldLink RX6 109 (TX5 0).1 (TX5 0).2.1 (TX5 0).2.2.1 ∈ aBIG := aBIG_of (aT2 (List.mem_of_getElem? (i := 55) (by decide +kernel))) rfl
theorem w_391 : Cond.fieldLink RX5 30 (TX5 1).1 (TX5 1).2.1 (TX5 1).2.2.1 ∈ aBIG := aBIG_of (aT2 (List.mem_of_getElem? (i := 56) (by decide +kernel))) rfl
theorem w_392 : Cond.fieldLink RX6 103 (TX5 1).1 (TX5 1).2.1 (TX5 1).2.2.1 ∈ aBIG := aBIG_of (aT2 (List.mem_of_getElem? (i := 57) (by decide +kernel))) rfl
theorem w_393 : Cond.fieldLink RX4 82 (TX5 1).1 (TX5 1).2.1 (TX5 1).2.2.1 ∈ aBIG := aBIG_of (aT2 (List.mem_of_getElem? (i := 58) (by decide +kernel))) rfl
theorem w_394 : Cond.fieldLink RX5 20 (TX5 2).1 (TX5 2).2.1 (TX5 2).2.2.1 ∈ aBIG := aBIG_of (aT2 (List.mem_of_getElem? (i := 59) (by decide +kernel))) rfl
theorem w_395 : Cond.fieldLink RX6 155 (TX5 2).1 (TX5 2).2.1 (TX5 2).2.2.1 ∈ aBIG := aBIG_of (aT2 (List.mem_of_getElem? (i := 60) (by decide +kernel))) rfl
theorem w_396 : Cond.fieldLink RX5 17 (TX5 3).1 (TX5 3).2.1 (TX5 3).2.2.1 ∈ aBIG := aBIG_of (aT2 (List.mem_of_getElem? (i := 61) (by decide +kernel))) rfl
theorem w_407 : Cond.classLink RX6 81 RX4 ∈ aBIG := aBIG_of (aT2 (List.mem_of_getElem? (i := 72) (by decide +kernel))) rfl
theorem w_408 : Cond.instantiable RX4 6 ∈ aBIG := aBIG_of (aT2 (List.mem_of_getElem? (i := 73) (by decide +kernel))) rfl
theorem w_409 : Cond.methodLink RX6 83 yX4_init ∈ aBIG := aBIG_of (aT2 (List.mem_of_getElem? (i := 74) (by decide +kernel))) rfl
theorem w_410 : Cond.instanceMethod yX4_init ∈ aBIG := aBIG_of (aT2 (List.mem_of_getElem? (i := 75) (by decide +kernel))) rfl
theorem w_411 : Cond.code yX4_init cX4_init 3 none ∈ aBIG := aBIG_of (aT2 (List.mem_of_getElem? (i := 76) (by decide +kernel))) rfl
theorem w_412 : Cond.methodLink RX4 3 Lib.objectInit ∈ aBIG := aBIG_of (aT2 (List.mem_of_getElem? (i := 77) (by decide +kernel))) rfl
theorem w_413 : Cond.classLink RX4 9 RX0 ∈ aBIG := aBIG_of (aT2 (List.mem_of_getElem? (i := 78) (by decide +kernel))) rfl
theorem w_414 : Cond.methodLink RX4 11 yX0_init ∈ aBIG := aBIG_of (aT2 (List.mem_of_getElem? (i := 79) (by decide +kernel))) rfl
theorem w_415 : Cond.classLink RX4 22 RX5 ∈ aBIG := aBIG_of (aT2 (List.mem_of_getElem? (i := 80) (by decide +kernel))) rfl
theorem w_416 : Cond.methodLink RX4 24 yX5_init ∈ aBIG := aBIG_of (aT2 (List.mem_of_getElem? (i := 81) (by decide +kernel))) rfl
theorem w_417 : Cond.fieldLink RX4 27 (TX4 0).1 (TX4 0).2.1 (TX4 0).2.2.1 ∈ aBIG := aBIG_of (aT2 (List.mem_of_getElem? (i := 82) (by decide +kernel))) rfl
theorem w_418 : Cond.fieldLink RX6 253 (TX4 0).1 (TX4 0).2.1 (TX4 0).2.2.1 ∈ aBIG := aBIG_of (aT2 (List.mem_of_getElem? (i := 83) (by decide +kernel))) rfl
theorem w_419 : Cond.fieldLink RX4 12 (TX4 1).1 (TX4 1).2.1 (TX4 1).2.2.1 ∈ aBIG := aBIG_of (aT2 (List.mem_of_getElem? (i := 84) (by decide +kernel))) rfl
theorem w_420 : Cond.fieldLink RX6 245 (TX4 1).1 (TX4 1).2.1 (TX4 1).2.2.1 ∈ aBIG := aBIG_of (aT2 (List.mem_of_getElem? (i := 85) (by decide +kernel))) rfl
theorem w_421 : Cond.fieldLink RX4 50 (TX4 2).1 (TX4 2).2.1 (TX4 2).2.2.1 ∈ aBIG := aBIG_of (aT2 (List.mem_of_getElem? (i := 86) (by decide +kernel))) rfl
theorem w_422 : Cond.fieldLink RX6 191 (TX4 2).1 (TX4 2).2.1 (TX4 2).2.2.1 ∈ aBIG := aBIG_of (aT2 (List.mem_of_getElem? (i := 87) (by decide +kernel))) rfl
theorem w_423 : Cond.fieldLink RX4 54 (TX4 3).1 (TX4 3).2.1 (TX4 3).2.2.1 ∈ aBIG := aBIG_of (aT2 (List.mem_of_getElem? (i := 88) (by decide +kernel))) rfl
theorem w_424 : Cond.fieldLink RX6 194 (TX4 3).1 (TX4 3).2.1 (TX4 3).2.2.1 ∈ aBIG := aBIG_of (aT2 (List.mem_of_getElem? (i := 89) (by decide +kernel))) rfl
theorem w_425 : Cond.fieldLink RX4 57 (TX4 4).1 (TX4 4).2.1 (TX4 4).2.2.1 ∈ aBIG := aBIG_of (aT2 (List.mem_of_getElem? (i := 90) (by decide +kernel))) rfl
theorem w_426 : Cond.fieldLink RX6 197 (TX4 4).1 (TX4 4).2.1 (TX4 4).2.2.1 ∈ aBIG := aBIG_of (aT2 (List.mem_of_getElem? (i := 91) (by decide +kernel))) rfl
theorem w_427 : Cond.fieldLink RX4 18 (TX4 5).1 (TX4 5).2.1 (TX4 5).2.2.1 ∈ aBIG := aBIG_of (aT2 (List.mem_of_getElem? (i := 92) (by decide +kernel))) rfl
theorem w_441 : Cond.fieldLink RX6 11 (TX6 0).1 (TX6 0).2.1 (TX6 0).2.2.1 ∈ aBIG := aBIG_of (aT2 (List.mem_of_getElem? (i := 106) (by decide +kernel))) rfl
theorem w_442 : Cond.fieldLink RX6 66 (TX6 1).1 (TX6 1).2.1 (TX6 1).2.2.1 ∈ aBIG := aBIG_of (aT2 (List.mem_of_getElem? (i := 107) (by decide +kernel))) rfl
theorem w_443 : Cond.fieldLink RX6 18 (TX6 2).1 (TX6 2).2.1 (TX6 2).2.2.1 ∈ aBIG := aBIG_of (aT2 (List.mem_of_getElem? (i := 108) (by decide +kernel))) rfl
theorem w_444 : Cond.fieldLink RX6 74 (TX6 3).1 (TX6 3).2.1 (TX6 3).2.2.1 ∈ aBIG := aBIG_of (aT2 (List.mem_of_getElem? (i := 109) (by decide +kernel))) rfl
theorem w_445 : Cond.fieldLink RX6 24 (TX6 4).1 (TX6 4).2.1 (TX6 4).2.2.1 ∈ aBIG := aBIG_of (aT2 (List.mem_of_getElem? (i := 110) (by decide +kernel))) rfl
theorem w_446 : Cond.fieldLink RX6 116 (TX6 5).1 (TX6 5).2.1 (TX6 5).2.2.1 ∈ aBIG := aBIG_of (aT2 (List.mem_of_getElem? (i := 111) (by decide +kernel))) rfl
theorem w_447 : Cond.fieldLink RX6 78 (TX6 6).1 (TX6 6).2.1 (TX6 6).2.2.1 ∈ aBIG := aBIG_of (aT2 (List.mem_of_getElem? (i := 112) (by decide +kernel))) rfl
theorem w_448 : Cond.fieldLink RX6 28 (TX6 7).1 (TX6 7).2.1 (TX6 7).2.2.1 ∈ aBIG := aBIG_of (aT2 (List.mem_of_getElem? (i := 113) (by decide +kernel))) rfl
theorem w_449 : Cond.fieldLink RX6 31 (TX6 8).1 (TX6 8).2.1 (TX6 8).2.2.1 ∈ aBIG := aBIG_of (aT2 (List.mem_of_getElem? (i := 114) (by decide +kernel))) rfl
theorem w_450 : Cond.fieldLink RX6 84 (TX6 9).1 (TX6 9).2.1 (TX6 9).2.2.1 ∈ aBIG := aBIG_of (aT2 (List.mem_of_getElem? (i := 115) (by decide +kernel))) rfl
theorem w_451 : Cond.fieldLink RX6 37 (TX6 10).1 (TX6 10).2.1 (TX6 10).2.2.1 ∈ aBIG := aBIG_of (aT2 (List.mem_of_getElem? (i := 116) (by decide +kernel))) rfl
theorem w_475 : Cond.methodLink RL 13 yX6_set ∈ aBIG := aBIG_of (aT2 (List.mem_of_getElem? (i := 140) (by decide +kernel))) rfl
theorem w_476 : Cond.instanceMethod yX6_set ∈ aBIG := aBIG_of (aT2 (List.mem_of_getElem? (i := 141) (by decide +kernel))) rfl
theorem w_477 : Cond.selects RX6 yX6_set yX6_set ∈ aBIG := aBIG_of (aT2 (List.mem_of_getElem? (i := 142) (by decide +kernel))) rfl
theorem w_478 : Cond.code yX6_set cX6_set 5 (some .int) ∈ aBIG := aBIG_of (aT2 (List.mem_of_getElem? (i := 143) (by decide +kernel))) rfl
theorem w_479 : Cond.methodLink RX6 88 yX6_setDay ∈ aBIG := aBIG_of (aT2 (List.mem_of_getElem? (i := 144) (by decide +kernel))) rfl
theorem w_481 : Cond.instanceMethod yX6_setDay ∈ aBIG := aBIG_of (aT2 (List.mem_of_getElem? (i := 146) (by decide +kernel))) rfl
theorem w_482 : Cond.code yX6_setDay cX6_setDay 3 (some .int) ∈ aBIG := aBIG_of (aT2 (List.mem_of_getElem? (i := 147) (by decide +kernel))) rfl
theorem w_483 : Cond.methodLink RX6 92 yX6_setHard ∈ aBIG := aBIG_of (aT2 (List.mem_of_getElem? (i := 148) (by decide +kernel))) rfl
theorem w_485 : Cond.instanceMethod yX6_setHard ∈ aBIG := aBIG_of (aT2 (List.mem_of_getElem? (i := 150) (by decide +kernel))) rfl
theorem w_486 : Cond.code yX6_setHard cX6_setHard 4 (some .int) ∈ aBIG := aBIG_of (aT2 (List.mem_of_getElem? (i := 151) (by decide +kernel))) rfl
theorem w_487 : Cond.methodLink RX6 106 yX6_isStreet ∈ aBIG := aBIG_of (aT2 (List.mem_of_getElem? (i := 152) (by decide +kernel))) rfl
theorem w_488 : Cond.static yX6_isStreet ∈ aBIG := aBIG_of (aT2 (List.mem_of_getElem? (i := 153) (by decide +kernel))) rfl
theorem w_489 : Cond.code yX6_isStreet cX6_isStreet 1 (some .boolean) ∈ aBIG := aBIG_of (aT2 (List.mem_of_getElem? (i := 154) (by decide +kernel))) rfl
theorem w_490 : Cond.methodLink RX6 96 yX6_pupilAt ∈ aBIG := aBIG_of (aT2 (List.mem_of_getElem? (i := 155) (by decide +kernel))) rfl
theorem w_492 : Cond.instanceMethod yX6_pupilAt ∈ aBIG := aBIG_of (aT2 (List.mem_of_getElem? (i := 157) (by decide +kernel))) rfl
theorem w_493 : Cond.code yX6_pupilAt cX6_pupilAt 2 (some (.object "FootOnTheOtherPedal$Pupil")) ∈ aBIG := aBIG_of (aT2 (List.mem_of_getElem? (i := 158) (by decide +kernel))) rfl
theorem w_494 : Cond.methodLink RX6 100 yX0_put ∈ aBIG := aBIG_of (aT2 (List.mem_of_getElem? (i := 159) (by decide +kernel))) rfl
theorem w_495 : Cond.instanceMethod yX0_put ∈ aBIG := aBIG_of (aT2 (List.mem_of_getElem? (i := 160) (by decide +kernel))) rfl
theorem w_496 : Cond.selects RX0 yX0_put yX0_put ∈ aBIG := aBIG_of (aT2 (List.mem_of_getElem? (i := 161) (by decide +kernel))) rfl
theorem w_497 : Cond.code yX0_put cX0_put 4 (some .int) ∈ aBIG := aBIG_of (aT2 (List.mem_of_getElem? (i := 162) (by decide +kernel))) rfl
theorem w_498 : Cond.methodLink RX0 44 yX0_valueOf ∈ aBIG := aBIG_of (aT2 (List.mem_of_getElem? (i := 163) (by decide +kernel))) rfl
theorem w_499 : Cond.instanceMethod yX0_valueOf ∈ aBIG := aBIG_of (aT2 (List.mem_of_getElem? (i := 164) (by decide +kernel))) rfl
theorem w_500 : Cond.selects RX0 yX0_valueOf yX0_valueOf ∈ aBIG := aBIG_of (aT2 (List.mem_of_getElem? (i := 165) (by decide +kernel))) rfl
theorem w_501 : Cond.code yX0_valueOf cX0_valueOf 2 (some .int) ∈ aBIG := aBIG_of (aT2 (List.mem_of_getElem? (i := 166) (by decide +kernel))) rfl
theorem w_503 : Cond.methodLink RX0 48 yX0_mostOf ∈ aBIG := aBIG_of (aT2 (List.mem_of_getElem? (i := 168) (by decide +kernel))) rfl
theorem w_504 : Cond.static yX0_mostOf ∈ aBIG := aBIG_of (aT2 (List.mem_of_getElem? (i := 169) (by decide +kernel))) rfl
theorem w_505 : Cond.code yX0_mostOf cX0_mostOf 1 (some .int) ∈ aBIG := aBIG_of (aT2 (List.mem_of_getElem? (i := 170) (by decide +kernel))) rfl
theorem w_506 : Cond.methodLink RL 18 yX6_learner ∈ aBIG := aBIG_of (aT2 (List.mem_of_getElem? (i := 171) (by decide +kernel))) rfl
theorem w_507 : Cond.instanceMethod yX6_learner ∈ aBIG := aBIG_of (aT2 (List.mem_of_getElem? (i := 172) (by decide +kernel))) rfl
theorem w_508 : Cond.selects RX6 yX6_learner yX6_learner ∈ aBIG := aBIG_of (aT2 (List.mem_of_getElem? (i := 173) (by decide +kernel))) rfl
theorem w_509 : Cond.code yX6_learner cX6_learner 3 (some .int) ∈ aBIG := aBIG_of (aT2 (List.mem_of_getElem? (i := 174) (by decide +kernel))) rfl
theorem w_510 : Cond.methodLink RX6 113 yX6_comes ∈ aBIG := aBIG_of (aT2 (List.mem_of_getElem? (i := 175) (by decide +kernel))) rfl
theorem w_512 : Cond.instanceMethod yX6_comes ∈ aBIG := aBIG_of (aT2 (List.mem_of_getElem? (i := 177) (by decide +kernel))) rfl
theorem w_513 : Cond.code yX6_comes cX6_comes 3 (some .int) ∈ aBIG := aBIG_of (aT2 (List.mem_of_getElem? (i := 178) (by decide +kernel))) rfl
theorem w_514 : Cond.methodLink RX6 119 yX0_begin ∈ aBIG := aBIG_of (aT2 (List.mem_of_getElem? (i := 179) (by decide +kernel))) rfl
theorem w_515 : Cond.instanceMethod yX0_begin ∈ aBIG := aBIG_of (aT2 (List.mem_of_getElem? (i := 180) (by decide +kernel))) rfl
theorem w_516 : Cond.selects RX0 yX0_begin yX0_begin ∈ aBIG := aBIG_of (aT2 (List.mem_of_getElem? (i := 181) (by decide +kernel))) rfl
theorem w_517 : Cond.code yX0_begin cX0_begin 3 none ∈ aBIG := aBIG_of (aT2 (List.mem_of_getElem? (i := 182) (by decide +kernel))) rfl
theorem w_518 : Cond.methodLink RX0 28 yJ7_fill_53178 ∈ aBIG := aBIG_of (aT2 (List.mem_of_getElem? (i := 183) (by decide +kernel))) rfl
theorem w_519 : Cond.methodLink RL 23 yX6_told ∈ aBIG := aBIG_of (aT2 (List.mem_of_getElem? (i := 184) (by decide +kernel))) rfl
theorem w_520 : Cond.instanceMethod yX6_told ∈ aBIG := aBIG_of (aT2 (List.mem_of_getElem? (i := 185) (by decide +kernel))) rfl
theorem w_521 : Cond.selects RX6 yX6_told yX6_told ∈ aBIG := aBIG_of (aT2 (List.mem_of_getElem? (i := 186) (by decide +kernel))) rfl
theorem w_522 : Cond.code yX6_told cX6_told 4 (some .int) ∈ aBIG := aBIG_of (aT2 (List.mem_of_getElem? (i := 187) (by decide +kernel))) rfl
theorem w_523 : Cond.methodLink RX6 123 yX5_isReady ∈ aBIG := aBIG_of (aT2 (List.mem_of_getElem? (i := 188) (by decide +kernel))) rfl
theorem w_524 : Cond.instanceMethod yX5_isReady ∈ aBIG := aBIG_of (aT2 (List.mem_of_getElem? (i := 189) (by decide +kernel))) rfl
theorem w_525 : Cond.selects RX5 yX5_isReady yX5_isReady ∈ aBIG := aBIG_of (aT2 (List.mem_of_getElem? (i := 190) (by decide +kernel))) rfl
theorem w_526 : Cond.code yX5_isReady cX5_isReady 3 (some .boolean) ∈ aBIG := aBIG_of (aT2 (List.mem_of_getElem? (i := 191) (by decide +kernel))) rfl
theorem w_527 : Cond.methodLink RX5 78 yX5_margin ∈ aBIG := aBIG_of (aT2 (List.mem_of_getElem? (i := 192) (by decide +kernel))) rfl
theorem w_528 : Cond.instanceMethod yX5_margin ∈ aBIG := aBIG_of (aT2 (List.mem_of_getElem? (i := 193) (by decide +kernel))) rfl
theorem w_529 : Cond.selects RX5 yX5_margin yX5_margin ∈ aBIG := aBIG_of (aT2 (List.mem_of_getElem? (i := 194) (by decide +kernel))) rfl
theorem w_530 : Cond.code yX5_margin cX5_margin 3 (some .int) ∈ aBIG := aBIG_of (aT2 (List.mem_of_getElem? (i := 195) (by decide +kernel))) rfl
theorem w_531 : Cond.methodLink RX5 74 yX5_nerve ∈ aBIG := aBIG_of (aT2 (List.mem_of_getElem? (i := 196) (by decide +kernel))) rfl
theorem w_532 : Cond.instanceMethod yX5_nerve ∈ aBIG := aBIG_of (aT2 (List.mem_of_getElem? (i := 197) (by decide +kernel))) rfl
theorem w_533 : Cond.selects RX5 yX5_nerve yX5_nerve ∈ aBIG := aBIG_of (aT2 (List.mem_of_getElem? (i := 198) (by decide +kernel))) rfl
theorem w_534 : Cond.code yX5_nerve cX5_nerve 3 (some .int) ∈ aBIG := aBIG_of (aT2 (List.mem_of_getElem? (i := 199) (by decide +kernel))) rfl
theorem w_535 : Cond.methodLink RX5 51 yX5_name ∈ aBIG := aBIG_of (aT2 (List.mem_of_getElem? (i := 200) (by decide +kernel))) rfl
theorem w_537 : Cond.instanceMethod yX5_name ∈ aBIG := aBIG_of (aT2 (List.mem_of_getElem? (i := 202) (by decide +kernel))) rfl
theorem w_538 : Cond.code yX5_name cX5_name 4 none ∈ aBIG := aBIG_of (aT2 (List.mem_of_getElem? (i := 203) (by decide +kernel))) rfl
theorem w_539 : Cond.methodLink RX5 55 yX3_value ∈ aBIG := aBIG_of (aT2 (List.mem_of_getElem? (i := 204) (by decide +kernel))) rfl
theorem w_540 : Cond.instanceMethod yX3_value ∈ aBIG := aBIG_of (aT2 (List.mem_of_getElem? (i := 205) (by decide +kernel))) rfl
theorem w_541 : Cond.selects RX3 yX3_value yX3_value ∈ aBIG := aBIG_of (aT2 (List.mem_of_getElem? (i := 206) (by decide +kernel))) rfl
theorem w_542 : Cond.code yX3_value cX3_value 8 (some .int) ∈ aBIG := aBIG_of (aT2 (List.mem_of_getElem? (i := 207) (by decide +kernel))) rfl
theorem w_543 : Cond.methodLink RX3 40 yX3_named ∈ aBIG := aBIG_of (aT2 (List.mem_of_getElem? (i := 208) (by decide +kernel))) rfl
theorem w_544 : Cond.static yX3_named ∈ aBIG := aBIG_of (aT2 (List.mem_of_getElem? (i := 209) (by decide +kernel))) rfl
theorem w_545 : Cond.code yX3_named cX3_named 2 (some .int) ∈ aBIG := aBIG_of (aT2 (List.mem_of_getElem? (i := 210) (by decide +kernel))) rfl
theorem w_546 : Cond.methodLink RX3 44 yX3_joined ∈ aBIG := aBIG_of (aT2 (List.mem_of_getElem? (i := 211) (by decide +kernel))) rfl
theorem w_547 : Cond.static yX3_joined ∈ aBIG := aBIG_of (aT2 (List.mem_of_getElem? (i := 212) (by decide +kernel))) rfl
theorem w_548 : Cond.code yX3_joined cX3_joined 3 (some .int) ∈ aBIG := aBIG_of (aT2 (List.mem_of_getElem? (i := 213) (by decide +kernel))) rfl
theorem w_550 : Cond.static yX6_bounded ∈ aBIG := aBIG_of (aT2 (List.mem_of_getElem? (i := 215) (by decide +kernel))) rfl
theorem w_551 : Cond.code yX6_bounded cX6_bounded 3 (some .int) ∈ aBIG := aBIG_of (aT2 (List.mem_of_getElem? (i := 216) (by decide +kernel))) rfl
theorem w_552 : Cond.methodLink RX6 295 Lib.Math.min.name ∈ aBIG := aBIG_of (aT2 (List.mem_of_getElem? (i := 217) (by decide +kernel))) rfl
theorem w_553 : Cond.static Lib.Math.min.name ∈ aBIG := aBIG_of (aT2 (List.mem_of_getElem? (i := 218) (by decide +kernel))) rfl
theorem w_554 : Cond.code Lib.Math.min.name Lib.Math.min.code 2 (some .int) ∈ aBIG := aBIG_of (aT2 (List.mem_of_getElem? (i := 219) (by decide +kernel))) rfl
theorem w_555 : Cond.methodLink RX6 300 Lib.Math.max.name ∈ aBIG := aBIG_of (aT2 (List.mem_of_getElem? (i := 220) (by decide +kernel))) rfl
theorem w_556 : Cond.static Lib.Math.max.name ∈ aBIG := aBIG_of (aT2 (List.mem_of_getElem? (i := 221) (by decide +kernel))) rfl
theorem w_557 : Cond.code Lib.Math.max.name Lib.Math.max.code 2 (some .int) ∈ aBIG := aBIG_of (aT2 (List.mem_of_getElem? (i := 222) (by decide +kernel))) rfl
theorem w_558 : Cond.methodLink RX5 71 yX0_nerveOf ∈ aBIG := aBIG_of (aT2 (List.mem_of_getElem? (i := 223) (by decide +kernel))) rfl
theorem w_559 : Cond.instanceMethod yX0_nerveOf ∈ aBIG := aBIG_of (aT2 (List.mem_of_getElem? (i := 224) (by decide +kernel))) rfl
theorem w_560 : Cond.selects RX0 yX0_nerveOf yX0_nerveOf ∈ aBIG := aBIG_of (aT2 (List.mem_of_getElem? (i := 225) (by decide +kernel))) rfl
theorem w_561 : Cond.code yX0_nerveOf cX0_nerveOf 2 (some .int) ∈ aBIG := aBIG_of (aT2 (List.mem_of_getElem? (i := 226) (by decide +kernel))) rfl
theorem w_562 : Cond.methodLink RX6 127 yX5_managedBy ∈ aBIG := aBIG_of (aT2 (List.mem_of_getElem? (i := 227) (by decide +kernel))) rfl
theorem w_563 : Cond.instanceMethod yX5_managedBy ∈ aBIG := aBIG_of (aT2 (List.mem_of_getElem? (i := 228) (by decide +kernel))) rfl
theorem w_564 : Cond.selects RX5 yX5_managedBy yX5_managedBy ∈ aBIG := aBIG_of (aT2 (List.mem_of_getElem? (i := 229) (by decide +kernel))) rfl
theorem w_565 : Cond.code yX5_managedBy cX5_managedBy 4 (some .int) ∈ aBIG := aBIG_of (aT2 (List.mem_of_getElem? (i := 230) (by decide +kernel))) rfl
theorem w_566 : Cond.methodLink RX6 131 yX5_margin ∈ aBIG := aBIG_of (aT2 (List.mem_of_getElem? (i := 231) (by decide +kernel))) rfl
theorem w_567 : Cond.methodLink RX6 135 yX0_valueOf ∈ aBIG := aBIG_of (aT2 (List.mem_of_getElem? (i := 232) (by decide +kernel))) rfl
theorem w_568 : Cond.methodLink RL 27 yX6_asks ∈ aBIG := aBIG_of (aT2 (List.mem_of_getElem? (i := 233) (by decide +kernel))) rfl
theorem w_569 : Cond.instanceMethod yX6_asks ∈ aBIG := aBIG_of (aT2 (List.mem_of_getElem? (i := 234) (by decide +kernel))) rfl
theorem w_570 : Cond.selects RX6 yX6_asks yX6_asks ∈ aBIG := aBIG_of (aT2 (List.mem_of_getElem? (i := 235) (by decide +kernel))) rfl
theorem w_571 : Cond.code yX6_asks cX6_asks 5 (some .int) ∈ aBIG := aBIG_of (aT2 (List.mem_of_getElem? (i := 236) (by decide +kernel))) rfl
theorem w_572 : Cond.methodLink RX6 138 yX5_learns ∈ aBIG := aBIG_of (aT2 (List.mem_of_getElem? (i := 237) (by decide +kernel))) rfl
theorem w_573 : Cond.instanceMethod yX5_learns ∈ aBIG := aBIG_of (aT2 (List.mem_of_getElem? (i := 238) (by decide +kernel))) rfl
theorem w_574 : Cond.selects RX5 yX5_learns yX5_learns ∈ aBIG := aBIG_of (aT2 (List.mem_of_getElem? (i := 239) (by decide +kernel))) rfl
theorem w_575 : Cond.code yX5_learns cX5_learns 5 (some .int) ∈ aBIG := aBIG_of (aT3 (List.mem_of_getElem? (i := 0) (by decide +kernel))) rfl
theorem w_576 : Cond.methodLink RX5 63 yX0_learnsOf ∈ aBIG := aBIG_of (aT3 (List.mem_of_getElem? (i := 1) (by decide +kernel))) rfl
theorem w_577 : Cond.instanceMethod yX0_learnsOf ∈ aBIG := aBIG_of (aT3 (List.mem_of_getElem? (i := 2) (by decide +kernel))) rfl
theorem w_578 : Cond.selects RX0 yX0_learnsOf yX0_learnsOf ∈ aBIG := aBIG_of (aT3 (List.mem_of_getElem? (i := 3) (by decide +kernel))) rfl
theorem w_579 : Cond.code yX0_learnsOf cX0_learnsOf 5 (some .int) ∈ aBIG := aBIG_of (aT3 (List.mem_of_getElem? (i := 4) (by decide +kernel))) rfl
theorem w_580 : Cond.methodLink RX0 51 Lib.Math.min.name ∈ aBIG := aBIG_of (aT3 (List.mem_of_getElem? (i := 5) (by decide +kernel))) rfl
theorem w_581 : Cond.methodLink RX6 142 yX5_forgets ∈ aBIG := aBIG_of (aT3 (List.mem_of_getElem? (i := 6) (by decide +kernel))) rfl
theorem w_582 : Cond.instanceMethod yX5_forgets ∈ aBIG := aBIG_of (aT3 (List.mem_of_getElem? (i := 7) (by decide +kernel))) rfl
theorem w_583 : Cond.selects RX5 yX5_forgets yX5_forgets ∈ aBIG := aBIG_of (aT3 (List.mem_of_getElem? (i := 8) (by decide +kernel))) rfl
theorem w_584 : Cond.code yX5_forgets cX5_forgets 4 (some .int) ∈ aBIG := aBIG_of (aT3 (List.mem_of_getElem? (i := 9) (by decide +kernel))) rfl
theorem w_585 : Cond.methodLink RX5 67 yX0_forgetsOf ∈ aBIG := aBIG_of (aT3 (List.mem_of_getElem? (i := 10) (by decide +kernel))) rfl
theorem w_586 : Cond.instanceMethod yX0_forgetsOf ∈ aBIG := aBIG_of (aT3 (List.mem_of_getElem? (i := 11) (by decide +kernel))) rfl
theorem w_587 : Cond.selects RX0 yX0_forgetsOf yX0_forgetsOf ∈ aBIG := aBIG_of (aT3 (List.mem_of_getElem? (i := 12) (by decide +kernel))) rfl
theorem w_588 : Cond.code yX0_forgetsOf cX0_forgetsOf 2 (some .int) ∈ aBIG := aBIG_of (aT3 (List.mem_of_getElem? (i := 13) (by decide +kernel))) rfl
theorem w_589 : Cond.methodLink RX6 145 yX5_nerve ∈ aBIG := aBIG_of (aT3 (List.mem_of_getElem? (i := 14) (by decide +kernel))) rfl
theorem w_590 : Cond.methodLink RL 31 yX6_feed ∈ aBIG := aBIG_of (aT3 (List.mem_of_getElem? (i := 15) (by decide +kernel))) rfl
theorem w_591 : Cond.instanceMethod yX6_feed ∈ aBIG := aBIG_of (aT3 (List.mem_of_getElem? (i := 16) (by decide +kernel))) rfl
theorem w_592 : Cond.selects RX6 yX6_feed yX6_feed ∈ aBIG := aBIG_of (aT3 (List.mem_of_getElem? (i := 17) (by decide +kernel))) rfl
theorem w_593 : Cond.code yX6_feed cX6_feed 2 (some .int) ∈ aBIG := aBIG_of (aT3 (List.mem_of_getElem? (i := 18) (by decide +kernel))) rfl
theorem w_594 : Cond.methodLink RL 36 yX6_text ∈ aBIG := aBIG_of (aT3 (List.mem_of_getElem? (i := 19) (by decide +kernel))) rfl
theorem w_595 : Cond.instanceMethod yX6_text ∈ aBIG := aBIG_of (aT3 (List.mem_of_getElem? (i := 20) (by decide +kernel))) rfl
theorem w_596 : Cond.selects RX6 yX6_text yX6_text ∈ aBIG := aBIG_of (aT3 (List.mem_of_getElem? (i := 21) (by decide +kernel))) rfl
theorem w_597 : Cond.code yX6_text cX6_text 2 (some .int) ∈ aBIG := aBIG_of (aT3 (List.mem_of_getElem? (i := 22) (by decide +kernel))) rfl
theorem w_598 : Cond.methodLink RL 41 yX6_force ∈ aBIG := aBIG_of (aT3 (List.mem_of_getElem? (i := 23) (by decide +kernel))) rfl
theorem w_599 : Cond.instanceMethod yX6_force ∈ aBIG := aBIG_of (aT3 (List.mem_of_getElem? (i := 24) (by decide +kernel))) rfl
theorem w_600 : Cond.selects RX6 yX6_force yX6_force ∈ aBIG := aBIG_of (aT3 (List.mem_of_getElem? (i := 25) (by decide +kernel))) rfl
theorem w_601 : Cond.code yX6_force cX6_force 4 (some .int) ∈ aBIG := aBIG_of (aT3 (List.mem_of_getElem? (i := 26) (by decide +kernel))) rfl
theorem w_602 : Cond.methodLink RX6 151 yX6_textAt ∈ aBIG := aBIG_of (aT3 (List.mem_of_getElem? (i := 27) (by decide +kernel))) rfl
theorem w_604 : Cond.instanceMethod yX6_textAt ∈ aBIG := aBIG_of (aT3 (List.mem_of_getElem? (i := 29) (by decide +kernel))) rfl
theorem w_605 : Cond.code yX6_textAt cX6_textAt 2 (some (.object "FootOnTheOtherPedal$Text")) ∈ aBIG := aBIG_of (aT3 (List.mem_of_getElem? (i := 30) (by decide +kernel))) rfl
theorem w_606 : Cond.methodLink RL 45 yX6_drive ∈ aBIG := aBIG_of (aT3 (List.mem_of_getElem? (i := 31) (by decide +kernel))) rfl
theorem w_607 : Cond.instanceMethod yX6_drive ∈ aBIG := aBIG_of (aT3 (List.mem_of_getElem? (i := 32) (by decide +kernel))) rfl
theorem w_608 : Cond.selects RX6 yX6_drive yX6_drive ∈ aBIG := aBIG_of (aT3 (List.mem_of_getElem? (i := 33) (by decide +kernel))) rfl
theorem w_609 : Cond.code yX6_drive cX6_drive 5 (some .int) ∈ aBIG := aBIG_of (aT3 (List.mem_of_getElem? (i := 34) (by decide +kernel))) rfl
theorem w_610 : Cond.methodLink RX6 162 yX6_isHelp ∈ aBIG := aBIG_of (aT3 (List.mem_of_getElem? (i := 35) (by decide +kernel))) rfl
theorem w_611 : Cond.static yX6_isHelp ∈ aBIG := aBIG_of (aT3 (List.mem_of_getElem? (i := 36) (by decide +kernel))) rfl
theorem w_612 : Cond.code yX6_isHelp cX6_isHelp 1 (some .boolean) ∈ aBIG := aBIG_of (aT3 (List.mem_of_getElem? (i := 37) (by decide +kernel))) rfl
theorem w_613 : Cond.methodLink RX6 165 yX5_spendHour ∈ aBIG := aBIG_of (aT3 (List.mem_of_getElem? (i := 38) (by decide +kernel))) rfl
theorem w_614 : Cond.instanceMethod yX5_spendHour ∈ aBIG := aBIG_of (aT3 (List.mem_of_getElem? (i := 39) (by decide +kernel))) rfl
theorem w_615 : Cond.selects RX5 yX5_spendHour yX5_spendHour ∈ aBIG := aBIG_of (aT3 (List.mem_of_getElem? (i := 40) (by decide +kernel))) rfl
theorem w_616 : Cond.code yX5_spendHour cX5_spendHour 5 none ∈ aBIG := aBIG_of (aT3 (List.mem_of_getElem? (i := 41) (by decide +kernel))) rfl
theorem w_617 : Cond.methodLink RX5 81 yX5_learns ∈ aBIG := aBIG_of (aT3 (List.mem_of_getElem? (i := 42) (by decide +kernel))) rfl
theorem w_618 : Cond.methodLink RX5 88 Lib.Math.min.name ∈ aBIG := aBIG_of (aT3 (List.mem_of_getElem? (i := 43) (by decide +kernel))) rfl
theorem w_619 : Cond.methodLink RL 49 yX6_night ∈ aBIG := aBIG_of (aT3 (List.mem_of_getElem? (i := 44) (by decide +kernel))) rfl
theorem w_620 : Cond.instanceMethod yX6_night ∈ aBIG := aBIG_of (aT3 (List.mem_of_getElem? (i := 45) (by decide +kernel))) rfl
theorem w_621 : Cond.selects RX6 yX6_night yX6_night ∈ aBIG := aBIG_of (aT3 (List.mem_of_getElem? (i := 46) (by decide +kernel))) rfl
theorem w_622 : Cond.code yX6_night cX6_night 2 (some .int) ∈ aBIG := aBIG_of (aT3 (List.mem_of_getElem? (i := 47) (by decide +kernel))) rfl
theorem w_623 : Cond.methodLink RX6 172 yX5_sleep ∈ aBIG := aBIG_of (aT3 (List.mem_of_getElem? (i := 48) (by decide +kernel))) rfl
theorem w_624 : Cond.instanceMethod yX5_sleep ∈ aBIG := aBIG_of (aT3 (List.mem_of_getElem? (i := 49) (by decide +kernel))) rfl
theorem w_625 : Cond.selects RX5 yX5_sleep yX5_sleep ∈ aBIG := aBIG_of (aT3 (List.mem_of_getElem? (i := 50) (by decide +kernel))) rfl
theorem w_626 : Cond.code yX5_sleep cX5_sleep 3 none ∈ aBIG := aBIG_of (aT3 (List.mem_of_getElem? (i := 51) (by decide +kernel))) rfl
theorem w_627 : Cond.methodLink RX5 93 yX5_forgets ∈ aBIG := aBIG_of (aT3 (List.mem_of_getElem? (i := 52) (by decide +kernel))) rfl
theorem w_628 : Cond.methodLink RX5 96 Lib.Math.max.name ∈ aBIG := aBIG_of (aT3 (List.mem_of_getElem? (i := 53) (by decide +kernel))) rfl
theorem w_629 : Cond.methodLink RX6 176 yX6_readyPupils ∈ aBIG := aBIG_of (aT3 (List.mem_of_getElem? (i := 54) (by decide +kernel))) rfl
theorem w_631 : Cond.instanceMethod yX6_readyPupils ∈ aBIG := aBIG_of (aT3 (List.mem_of_getElem? (i := 56) (by decide +kernel))) rfl
theorem w_632 : Cond.code yX6_readyPupils cX6_readyPupils 3 (some .int) ∈ aBIG := aBIG_of (aT3 (List.mem_of_getElem? (i := 57) (by decide +kernel))) rfl
theorem w_633 : Cond.methodLink RL 53 yX6_best ∈ aBIG := aBIG_of (aT3 (List.mem_of_getElem? (i := 58) (by decide +kernel))) rfl
theorem w_634 : Cond.instanceMethod yX6_best ∈ aBIG := aBIG_of (aT3 (List.mem_of_getElem? (i := 59) (by decide +kernel))) rfl
theorem w_635 : Cond.selects RX6 yX6_best yX6_best ∈ aBIG := aBIG_of (aT3 (List.mem_of_getElem? (i := 60) (by decide +kernel))) rfl
theorem w_636 : Cond.code yX6_best cX6_best 4 (some .int) ∈ aBIG := aBIG_of (aT3 (List.mem_of_getElem? (i := 61) (by decide +kernel))) rfl
theorem w_637 : Cond.methodLink RX6 179 yX4_bestHour ∈ aBIG := aBIG_of (aT3 (List.mem_of_getElem? (i := 62) (by decide +kernel))) rfl
theorem w_638 : Cond.instanceMethod yX4_bestHour ∈ aBIG := aBIG_of (aT3 (List.mem_of_getElem? (i := 63) (by decide +kernel))) rfl
theorem w_639 : Cond.selects RX4 yX4_bestHour yX4_bestHour ∈ aBIG := aBIG_of (aT3 (List.mem_of_getElem? (i := 64) (by decide +kernel))) rfl
theorem w_640 : Cond.code yX4_bestHour cX4_bestHour 9 (some .int) ∈ aBIG := aBIG_of (aT3 (List.mem_of_getElem? (i := 65) (by decide +kernel))) rfl
theorem w_641 : Cond.methodLink RX4 38 yX4_begin ∈ aBIG := aBIG_of (aT3 (List.mem_of_getElem? (i := 66) (by decide +kernel))) rfl
theorem w_642 : Cond.instanceMethod yX4_begin ∈ aBIG := aBIG_of (aT3 (List.mem_of_getElem? (i := 67) (by decide +kernel))) rfl
theorem w_643 : Cond.selects RX4 yX4_begin yX4_begin ∈ aBIG := aBIG_of (aT3 (List.mem_of_getElem? (i := 68) (by decide +kernel))) rfl
theorem w_644 : Cond.code yX4_begin cX4_begin 3 none ∈ aBIG := aBIG_of (aT3 (List.mem_of_getElem? (i := 69) (by decide +kernel))) rfl
theorem w_645 : Cond.methodLink RX4 31 yX5_become ∈ aBIG := aBIG_of (aT3 (List.mem_of_getElem? (i := 70) (by decide +kernel))) rfl
theorem w_646 : Cond.instanceMethod yX5_become ∈ aBIG := aBIG_of (aT3 (List.mem_of_getElem? (i := 71) (by decide +kernel))) rfl
theorem w_647 : Cond.selects RX5 yX5_become yX5_become ∈ aBIG := aBIG_of (aT3 (List.mem_of_getElem? (i := 72) (by decide +kernel))) rfl
theorem w_648 : Cond.code yX5_become cX5_become 2 none ∈ aBIG := aBIG_of (aT3 (List.mem_of_getElem? (i := 73) (by decide +kernel))) rfl
theorem w_649 : Cond.methodLink RX5 34 arraycopyName ∈ aBIG := aBIG_of (aT3 (List.mem_of_getElem? (i := 74) (by decide +kernel))) rfl
theorem w_650 : Cond.methodLink RX4 35 yX0_become ∈ aBIG := aBIG_of (aT3 (List.mem_of_getElem? (i := 75) (by decide +kernel))) rfl
theorem w_651 : Cond.instanceMethod yX0_become ∈ aBIG := aBIG_of (aT3 (List.mem_of_getElem? (i := 76) (by decide +kernel))) rfl
theorem w_652 : Cond.selects RX0 yX0_become yX0_become ∈ aBIG := aBIG_of (aT3 (List.mem_of_getElem? (i := 77) (by decide +kernel))) rfl
theorem w_653 : Cond.code yX0_become cX0_become 2 none ∈ aBIG := aBIG_of (aT3 (List.mem_of_getElem? (i := 78) (by decide +kernel))) rfl
theorem w_654 : Cond.methodLink RX0 34 arraycopyName ∈ aBIG := aBIG_of (aT3 (List.mem_of_getElem? (i := 79) (by decide +kernel))) rfl
theorem w_655 : Cond.methodLink RX4 42 yX5_spendHour ∈ aBIG := aBIG_of (aT3 (List.mem_of_getElem? (i := 80) (by decide +kernel))) rfl
theorem w_656 : Cond.methodLink RX4 46 yX0_skillsTogether ∈ aBIG := aBIG_of (aT3 (List.mem_of_getElem? (i := 81) (by decide +kernel))) rfl
theorem w_657 : Cond.instanceMethod yX0_skillsTogether ∈ aBIG := aBIG_of (aT3 (List.mem_of_getElem? (i := 82) (by decide +kernel))) rfl
theorem w_658 : Cond.selects RX0 yX0_skillsTogether yX0_skillsTogether ∈ aBIG := aBIG_of (aT3 (List.mem_of_getElem? (i := 83) (by decide +kernel))) rfl
theorem w_659 : Cond.code yX0_skillsTogether cX0_skillsTogether 3 (some .int) ∈ aBIG := aBIG_of (aT3 (List.mem_of_getElem? (i := 84) (by decide +kernel))) rfl
theorem w_660 : Cond.methodLink RL 57 yX6_hours ∈ aBIG := aBIG_of (aT3 (List.mem_of_getElem? (i := 85) (by decide +kernel))) rfl
theorem w_661 : Cond.instanceMethod yX6_hours ∈ aBIG := aBIG_of (aT3 (List.mem_of_getElem? (i := 86) (by decide +kernel))) rfl
theorem w_662 : Cond.selects RX6 yX6_hours yX6_hours ∈ aBIG := aBIG_of (aT3 (List.mem_of_getElem? (i := 87) (by decide +kernel))) rfl
theorem w_663 : Cond.code yX6_hours cX6_hours 6 (some .int) ∈ aBIG := aBIG_of (aT3 (List.mem_of_getElem? (i := 88) (by decide +kernel))) rfl
theorem w_664 : Cond.methodLink RX6 183 yX4_beginRows ∈ aBIG := aBIG_of (aT3 (List.mem_of_getElem? (i := 89) (by decide +kernel))) rfl
theorem w_665 : Cond.instanceMethod yX4_beginRows ∈ aBIG := aBIG_of (aT3 (List.mem_of_getElem? (i := 90) (by decide +kernel))) rfl
theorem w_666 : Cond.selects RX4 yX4_beginRows yX4_beginRows ∈ aBIG := aBIG_of (aT3 (List.mem_of_getElem? (i := 91) (by decide +kernel))) rfl
theorem w_667 : Cond.code yX4_beginRows cX4_beginRows 3 none ∈ aBIG := aBIG_of (aT3 (List.mem_of_getElem? (i := 92) (by decide +kernel))) rfl
theorem w_670 : Cond.instanceMethod yX4_tryRows ∈ aBIG := aBIG_of (aT3 (List.mem_of_getElem? (i := 95) (by decide +kernel))) rfl
theorem w_671 : Cond.code yX4_tryRows cX4_tryRows 6 none ∈ aBIG := aBIG_of (aT3 (List.mem_of_getElem? (i := 96) (by decide +kernel))) rfl
theorem w_672 : Cond.methodLink RX4 60 yX4_tryRows ∈ aBIG := aBIG_of (aT3 (List.mem_of_getElem? (i := 97) (by decide +kernel))) rfl
theorem w_673 : Cond.methodLink RX4 64 yX5_managedBy ∈ aBIG := aBIG_of (aT3 (List.mem_of_getElem? (i := 98) (by decide +kernel))) rfl
theorem w_674 : Cond.methodLink RL 62 yX6_takes ∈ aBIG := aBIG_of (aT3 (List.mem_of_getElem? (i := 99) (by decide +kernel))) rfl
theorem w_675 : Cond.instanceMethod yX6_takes ∈ aBIG := aBIG_of (aT3 (List.mem_of_getElem? (i := 100) (by decide +kernel))) rfl
theorem w_676 : Cond.selects RX6 yX6_takes yX6_takes ∈ aBIG := aBIG_of (aT3 (List.mem_of_getElem? (i := 101) (by decide +kernel))) rfl
theorem w_677 : Cond.code yX6_takes cX6_takes 5 (some .int) ∈ aBIG := aBIG_of (aT3 (List.mem_of_getElem? (i := 102) (by decide +kernel))) rfl
theorem w_678 : Cond.methodLink RX6 200 yX4_daysTill ∈ aBIG := aBIG_of (aT3 (List.mem_of_getElem? (i := 103) (by decide +kernel))) rfl
theorem w_679 : Cond.instanceMethod yX4_daysTill ∈ aBIG := aBIG_of (aT3 (List.mem_of_getElem? (i := 104) (by decide +kernel))) rfl
theorem w_680 : Cond.selects RX4 yX4_daysTill yX4_daysTill ∈ aBIG := aBIG_of (aT3 (List.mem_of_getElem? (i := 105) (by decide +kernel))) rfl
theorem w_681 : Cond.code yX4_daysTill cX4_daysTill 7 (some .int) ∈ aBIG := aBIG_of (aT3 (List.mem_of_getElem? (i := 106) (by decide +kernel))) rfl
theorem w_682 : Cond.methodLink RX4 69 yX5_isReady ∈ aBIG := aBIG_of (aT3 (List.mem_of_getElem? (i := 107) (by decide +kernel))) rfl
theorem w_683 : Cond.methodLink RX4 73 yX0_leastSkilled ∈ aBIG := aBIG_of (aT3 (List.mem_of_getElem? (i := 108) (by decide +kernel))) rfl
theorem w_684 : Cond.instanceMethod yX0_leastSkilled ∈ aBIG := aBIG_of (aT3 (List.mem_of_getElem? (i := 109) (by decide +kernel))) rfl
theorem w_685 : Cond.selects RX0 yX0_leastSkilled yX0_leastSkilled ∈ aBIG := aBIG_of (aT3 (List.mem_of_getElem? (i := 110) (by decide +kernel))) rfl
theorem w_686 : Cond.code yX0_leastSkilled cX0_leastSkilled 3 (some .int) ∈ aBIG := aBIG_of (aT3 (List.mem_of_getElem? (i := 111) (by decide +kernel))) rfl
theorem w_687 : Cond.methodLink RX4 76 yX4_passNight ∈ aBIG := aBIG_of (aT3 (List.mem_of_getElem? (i := 112) (by decide +kernel))) rfl
theorem w_689 : Cond.instanceMethod yX4_passNight ∈ aBIG := aBIG_of (aT3 (List.mem_of_getElem? (i := 114) (by decide +kernel))) rfl
theorem w_690 : Cond.code yX4_passNight cX4_passNight 1 none ∈ aBIG := aBIG_of (aT3 (List.mem_of_getElem? (i := 115) (by decide +kernel))) rfl
theorem w_691 : Cond.methodLink RX4 79 yX5_sleep ∈ aBIG := aBIG_of (aT3 (List.mem_of_getElem? (i := 116) (by decide +kernel))) rfl
theorem w_692 : Cond.methodLink RL 66 yX6_late ∈ aBIG := aBIG_of (aT3 (List.mem_of_getElem? (i := 117) (by decide +kernel))) rfl
theorem w_693 : Cond.instanceMethod yX6_late ∈ aBIG := aBIG_of (aT3 (List.mem_of_getElem? (i := 118) (by decide +kernel))) rfl
theorem w_694 : Cond.selects RX6 yX6_late yX6_late ∈ aBIG := aBIG_of (aT3 (List.mem_of_getElem? (i := 119) (by decide +kernel))) rfl
theorem w_695 : Cond.code yX6_late cX6_late 4 (some .int) ∈ aBIG := aBIG_of (aT3 (List.mem_of_getElem? (i := 120) (by decide +kernel))) rfl
theorem w_696 : Cond.methodLink RX6 204 yX4_bumpsTill ∈ aBIG := aBIG_of (aT3 (List.mem_of_getElem? (i := 121) (by decide +kernel))) rfl
theorem w_697 : Cond.instanceMethod yX4_bumpsTill ∈ aBIG := aBIG_of (aT3 (List.mem_of_getElem? (i := 122) (by decide +kernel))) rfl
theorem w_698 : Cond.selects RX4 yX4_bumpsTill yX4_bumpsTill ∈ aBIG := aBIG_of (aT3 (List.mem_of_getElem? (i := 123) (by decide +kernel))) rfl
theorem w_699 : Cond.code yX4_bumpsTill cX4_bumpsTill 5 (some .int) ∈ aBIG := aBIG_of (aT3 (List.mem_of_getElem? (i := 124) (by decide +kernel))) rfl
theorem w_700 : Cond.methodLink RX4 85 yX5_margin ∈ aBIG := aBIG_of (aT3 (List.mem_of_getElem? (i := 125) (by decide +kernel))) rfl
theorem w_701 : Cond.methodLink RL 70 yX6_gap ∈ aBIG := aBIG_of (aT3 (List.mem_of_getElem? (i := 126) (by decide +kernel))) rfl
theorem w_702 : Cond.instanceMethod yX6_gap ∈ aBIG := aBIG_of (aT3 (List.mem_of_getElem? (i := 127) (by decide +kernel))) rfl
theorem w_703 : Cond.selects RX6 yX6_gap yX6_gap ∈ aBIG := aBIG_of (aT3 (List.mem_of_getElem? (i := 128) (by decide +kernel))) rfl
theorem w_704 : Cond.code yX6_gap cX6_gap 5 (some .int) ∈ aBIG := aBIG_of (aT3 (List.mem_of_getElem? (i := 129) (by decide +kernel))) rfl
theorem w_705 : Cond.methodLink RX6 208 yX5_leastManaged ∈ aBIG := aBIG_of (aT3 (List.mem_of_getElem? (i := 130) (by decide +kernel))) rfl
theorem w_706 : Cond.instanceMethod yX5_leastManaged ∈ aBIG := aBIG_of (aT3 (List.mem_of_getElem? (i := 131) (by decide +kernel))) rfl
theorem w_707 : Cond.selects RX5 yX5_leastManaged yX5_leastManaged ∈ aBIG := aBIG_of (aT3 (List.mem_of_getElem? (i := 132) (by decide +kernel))) rfl
theorem w_708 : Cond.code yX5_leastManaged cX5_leastManaged 6 (some .int) ∈ aBIG := aBIG_of (aT3 (List.mem_of_getElem? (i := 133) (by decide +kernel))) rfl
theorem w_709 : Cond.methodLink RL 74 yX6_faded ∈ aBIG := aBIG_of (aT3 (List.mem_of_getElem? (i := 134) (by decide +kernel))) rfl
theorem w_710 : Cond.instanceMethod yX6_faded ∈ aBIG := aBIG_of (aT3 (List.mem_of_getElem? (i := 135) (by decide +kernel))) rfl
theorem w_711 : Cond.selects RX6 yX6_faded yX6_faded ∈ aBIG := aBIG_of (aT3 (List.mem_of_getElem? (i := 136) (by decide +kernel))) rfl
theorem w_712 : Cond.code yX6_faded cX6_faded 4 (some .int) ∈ aBIG := aBIG_of (aT3 (List.mem_of_getElem? (i := 137) (by decide +kernel))) rfl
theorem w_713 : Cond.methodLink RX6 211 yX4_managedBehind ∈ aBIG := aBIG_of (aT3 (List.mem_of_getElem? (i := 138) (by decide +kernel))) rfl
theorem w_714 : Cond.instanceMethod yX4_managedBehind ∈ aBIG := aBIG_of (aT3 (List.mem_of_getElem? (i := 139) (by decide +kernel))) rfl
theorem w_715 : Cond.selects RX4 yX4_managedBehind yX4_managedBehind ∈ aBIG := aBIG_of (aT3 (List.mem_of_getElem? (i := 140) (by decide +kernel))) rfl
theorem w_716 : Cond.code yX4_managedBehind cX4_managedBehind 5 (some .int) ∈ aBIG := aBIG_of (aT3 (List.mem_of_getElem? (i := 141) (by decide +kernel))) rfl
theorem w_717 : Cond.methodLink RL 78 yX6_test ∈ aBIG := aBIG_of (aT3 (List.mem_of_getElem? (i := 142) (by decide +kernel))) rfl
theorem w_718 : Cond.instanceMethod yX6_test ∈ aBIG := aBIG_of (aT3 (List.mem_of_getElem? (i := 143) (by decide +kernel))) rfl
theorem w_719 : Cond.selects RX6 yX6_test yX6_test ∈ aBIG := aBIG_of (aT3 (List.mem_of_getElem? (i := 144) (by decide +kernel))) rfl
theorem w_720 : Cond.code yX6_test cX6_test 10 (some .long) ∈ aBIG := aBIG_of (aT3 (List.mem_of_getElem? (i := 145) (by decide +kernel))) rfl
theorem w_721 : Cond.constantLong RX6 214 (-4611686018427387904) ∈ aBIG := aBIG_of (aT3 (List.mem_of_getElem? (i := 146) (by decide +kernel))) rfl
theorem w_722 : Cond.constantLong RX6 216 (100) ∈ aBIG := aBIG_of (aT3 (List.mem_of_getElem? (i := 147) (by decide +kernel))) rfl
theorem w_723 : Cond.methodLink RX6 218 yX6_inLowestTerms ∈ aBIG := aBIG_of (aT3 (List.mem_of_getElem? (i := 148) (by decide +kernel))) rfl
theorem w_724 : Cond.static yX6_inLowestTerms ∈ aBIG := aBIG_of (aT3 (List.mem_of_getElem? (i := 149) (by decide +kernel))) rfl
theorem w_725 : Cond.code yX6_inLowestTerms cX6_inLowestTerms 12 (some .long) ∈ aBIG := aBIG_of (aT3 (List.mem_of_getElem? (i := 150) (by decide +kernel))) rfl
theorem w_726 : Cond.methodLink RL 83 yX6_tells ∈ aBIG := aBIG_of (aT3 (List.mem_of_getElem? (i := 151) (by decide +kernel))) rfl
theorem w_727 : Cond.instanceMethod yX6_tells ∈ aBIG := aBIG_of (aT3 (List.mem_of_getElem? (i := 152) (by decide +kernel))) rfl
theorem w_728 : Cond.selects RX6 yX6_tells yX6_tells ∈ aBIG := aBIG_of (aT3 (List.mem_of_getElem? (i := 153) (by decide +kernel))) rfl
theorem w_729 : Cond.code yX6_tells cX6_tells 14 (some .int) ∈ aBIG := aBIG_of (aT3 (List.mem_of_getElem? (i := 154) (by decide +kernel))) rfl
theorem w_730 : Cond.methodLink RX6 222 yX6_sheetAt ∈ aBIG := aBIG_of (aT3 (List.mem_of_getElem? (i := 155) (by decide +kernel))) rfl
theorem w_732 : Cond.instanceMethod yX6_sheetAt ∈ aBIG := aBIG_of (aT3 (List.mem_of_getElem? (i := 157) (by decide +kernel))) rfl
theorem w_733 : Cond.code yX6_sheetAt cX6_sheetAt 2 (some (.object "FootOnTheOtherPedal$Sheet")) ∈ aBIG := aBIG_of (aT3 (List.mem_of_getElem? (i := 158) (by decide +kernel))) rfl
theorem w_734 : Cond.methodLink RX6 226 yX6_isStreetHelp ∈ aBIG := aBIG_of (aT3 (List.mem_of_getElem? (i := 159) (by decide +kernel))) rfl
theorem w_735 : Cond.static yX6_isStreetHelp ∈ aBIG := aBIG_of (aT3 (List.mem_of_getElem? (i := 160) (by decide +kernel))) rfl
theorem w_736 : Cond.code yX6_isStreetHelp cX6_isStreetHelp 1 (some .boolean) ∈ aBIG := aBIG_of (aT3 (List.mem_of_getElem? (i := 161) (by decide +kernel))) rfl
theorem w_737 : Cond.methodLink RX6 232 yX6_guessesOf ∈ aBIG := aBIG_of (aT3 (List.mem_of_getElem? (i := 162) (by decide +kernel))) rfl
theorem w_739 : Cond.instanceMethod yX6_guessesOf ∈ aBIG := aBIG_of (aT3 (List.mem_of_getElem? (i := 164) (by decide +kernel))) rfl
theorem w_740 : Cond.code yX6_guessesOf cX6_guessesOf 2 (some .int) ∈ aBIG := aBIG_of (aT3 (List.mem_of_getElem? (i := 165) (by decide +kernel))) rfl
theorem w_741 : Cond.methodLink RX6 235 yX4_begin ∈ aBIG := aBIG_of (aT3 (List.mem_of_getElem? (i := 166) (by decide +kernel))) rfl
theorem w_742 : Cond.methodLink RX6 237 yX6_suppose ∈ aBIG := aBIG_of (aT3 (List.mem_of_getElem? (i := 167) (by decide +kernel))) rfl
theorem w_744 : Cond.instanceMethod yX6_suppose ∈ aBIG := aBIG_of (aT3 (List.mem_of_getElem? (i := 169) (by decide +kernel))) rfl
theorem w_745 : Cond.code yX6_suppose cX6_suppose 5 none ∈ aBIG := aBIG_of (aT3 (List.mem_of_getElem? (i := 170) (by decide +kernel))) rfl
theorem w_746 : Cond.methodLink RX6 241 yX4_firstOtherwise ∈ aBIG := aBIG_of (aT3 (List.mem_of_getElem? (i := 171) (by decide +kernel))) rfl
theorem w_747 : Cond.instanceMethod yX4_firstOtherwise ∈ aBIG := aBIG_of (aT3 (List.mem_of_getElem? (i := 172) (by decide +kernel))) rfl
theorem w_748 : Cond.selects RX4 yX4_firstOtherwise yX4_firstOtherwise ∈ aBIG := aBIG_of (aT3 (List.mem_of_getElem? (i := 173) (by decide +kernel))) rfl
theorem w_749 : Cond.code yX4_firstOtherwise cX4_firstOtherwise 5 (some .int) ∈ aBIG := aBIG_of (aT3 (List.mem_of_getElem? (i := 174) (by decide +kernel))) rfl
theorem w_750 : Cond.methodLink RL 87 yX6_film ∈ aBIG := aBIG_of (aT3 (List.mem_of_getElem? (i := 175) (by decide +kernel))) rfl
theorem w_751 : Cond.instanceMethod yX6_film ∈ aBIG := aBIG_of (aT3 (List.mem_of_getElem? (i := 176) (by decide +kernel))) rfl
theorem w_752 : Cond.selects RX6 yX6_film yX6_film ∈ aBIG := aBIG_of (aT3 (List.mem_of_getElem? (i := 177) (by decide +kernel))) rfl
theorem w_753 : Cond.code yX6_film cX6_film 9 (some .int) ∈ aBIG := aBIG_of (aT3 (List.mem_of_getElem? (i := 178) (by decide +kernel))) rfl
theorem w_754 : Cond.methodLink RX6 254 yX2_become ∈ aBIG := aBIG_of (aT3 (List.mem_of_getElem? (i := 179) (by decide +kernel))) rfl
theorem w_755 : Cond.instanceMethod yX2_become ∈ aBIG := aBIG_of (aT3 (List.mem_of_getElem? (i := 180) (by decide +kernel))) rfl
theorem w_756 : Cond.selects RX2 yX2_become yX2_become ∈ aBIG := aBIG_of (aT3 (List.mem_of_getElem? (i := 181) (by decide +kernel))) rfl
theorem w_757 : Cond.code yX2_become cX2_become 3 none ∈ aBIG := aBIG_of (aT3 (List.mem_of_getElem? (i := 182) (by decide +kernel))) rfl
theorem w_759 : Cond.methodLink RX2 26 yJ7_fill_53178 ∈ aBIG := aBIG_of (aT3 (List.mem_of_getElem? (i := 184) (by decide +kernel))) rfl
theorem w_760 : Cond.methodLink RX6 257 yX2_put ∈ aBIG := aBIG_of (aT3 (List.mem_of_getElem? (i := 185) (by decide +kernel))) rfl
theorem w_761 : Cond.instanceMethod yX2_put ∈ aBIG := aBIG_of (aT3 (List.mem_of_getElem? (i := 186) (by decide +kernel))) rfl
theorem w_762 : Cond.selects RX2 yX2_put yX2_put ∈ aBIG := aBIG_of (aT3 (List.mem_of_getElem? (i := 187) (by decide +kernel))) rfl
theorem w_763 : Cond.code yX2_put cX2_put 3 none ∈ aBIG := aBIG_of (aT3 (List.mem_of_getElem? (i := 188) (by decide +kernel))) rfl
theorem w_764 : Cond.methodLink RX2 32 yX2_has ∈ aBIG := aBIG_of (aT3 (List.mem_of_getElem? (i := 189) (by decide +kernel))) rfl
theorem w_765 : Cond.instanceMethod yX2_has ∈ aBIG := aBIG_of (aT3 (List.mem_of_getElem? (i := 190) (by decide +kernel))) rfl
theorem w_766 : Cond.selects RX2 yX2_has yX2_has ∈ aBIG := aBIG_of (aT3 (List.mem_of_getElem? (i := 191) (by decide +kernel))) rfl
theorem w_767 : Cond.code yX2_has cX2_has 2 (some .boolean) ∈ aBIG := aBIG_of (aT3 (List.mem_of_getElem? (i := 192) (by decide +kernel))) rfl
theorem w_768 : Cond.methodLink RL 91 yX6_drawn ∈ aBIG := aBIG_of (aT3 (List.mem_of_getElem? (i := 193) (by decide +kernel))) rfl
theorem w_769 : Cond.instanceMethod yX6_drawn ∈ aBIG := aBIG_of (aT3 (List.mem_of_getElem? (i := 194) (by decide +kernel))) rfl
theorem w_770 : Cond.selects RX6 yX6_drawn yX6_drawn ∈ aBIG := aBIG_of (aT3 (List.mem_of_getElem? (i := 195) (by decide +kernel))) rfl
theorem w_771 : Cond.code yX6_drawn cX6_drawn 4 (some .int) ∈ aBIG := aBIG_of (aT3 (List.mem_of_getElem? (i := 196) (by decide +kernel))) rfl
theorem w_772 : Cond.methodLink RX6 259 yX6_passedBy ∈ aBIG := aBIG_of (aT3 (List.mem_of_getElem? (i := 197) (by decide +kernel))) rfl
theorem w_773 : Cond.static yX6_passedBy ∈ aBIG := aBIG_of (aT3 (List.mem_of_getElem? (i := 198) (by decide +kernel))) rfl
theorem w_774 : Cond.code yX6_passedBy cX6_passedBy 6 (some .int) ∈ aBIG := aBIG_of (aT3 (List.mem_of_getElem? (i := 199) (by decide +kernel))) rfl
theorem w_775 : Cond.methodLink RX6 263 yX6_drawnOn ∈ aBIG := aBIG_of (aT3 (List.mem_of_getElem? (i := 200) (by decide +kernel))) rfl
theorem w_776 : Cond.static yX6_drawnOn ∈ aBIG := aBIG_of (aT3 (List.mem_of_getElem? (i := 201) (by decide +kernel))) rfl
theorem w_777 : Cond.code yX6_drawnOn cX6_drawnOn 1 (some .int) ∈ aBIG := aBIG_of (aT3 (List.mem_of_getElem? (i := 202) (by decide +kernel))) rfl
theorem w_778 : Cond.constant RX6 266 (1103515245) ∈ aBIG := aBIG_of (aT3 (List.mem_of_getElem? (i := 203) (by decide +kernel))) rfl
theorem w_779 : Cond.methodLink RL 95 yX6_chance ∈ aBIG := aBIG_of (aT3 (List.mem_of_getElem? (i := 204) (by decide +kernel))) rfl
theorem w_780 : Cond.instanceMethod yX6_chance ∈ aBIG := aBIG_of (aT3 (List.mem_of_getElem? (i := 205) (by decide +kernel))) rfl
theorem w_781 : Cond.selects RX6 yX6_chance yX6_chance ∈ aBIG := aBIG_of (aT3 (List.mem_of_getElem? (i := 206) (by decide +kernel))) rfl
theorem w_782 : Cond.code yX6_chance cX6_chance 8 (some .long) ∈ aBIG := aBIG_of (aT3 (List.mem_of_getElem? (i := 207) (by decide +kernel))) rfl
theorem w_783 : Cond.methodLink RL 100 yX6_image ∈ aBIG := aBIG_of (aT3 (List.mem_of_getElem? (i := 208) (by decide +kernel))) rfl
theorem w_784 : Cond.instanceMethod yX6_image ∈ aBIG := aBIG_of (aT3 (List.mem_of_getElem? (i := 209) (by decide +kernel))) rfl
theorem w_785 : Cond.selects RX6 yX6_image yX6_image ∈ aBIG := aBIG_of (aT3 (List.mem_of_getElem? (i := 210) (by decide +kernel))) rfl
theorem w_786 : Cond.code yX6_image cX6_image 2 (some .int) ∈ aBIG := aBIG_of (aT3 (List.mem_of_getElem? (i := 211) (by decide +kernel))) rfl
theorem w_787 : Cond.methodLink RX6 267 yX5_become ∈ aBIG := aBIG_of (aT3 (List.mem_of_getElem? (i := 212) (by decide +kernel))) rfl
theorem w_788 : Cond.methodLink RX6 270 yX0_become ∈ aBIG := aBIG_of (aT3 (List.mem_of_getElem? (i := 213) (by decide +kernel))) rfl
theorem w_789 : Cond.methodLink RL 104 yX6_back ∈ aBIG := aBIG_of (aT3 (List.mem_of_getElem? (i := 214) (by decide +kernel))) rfl
theorem w_790 : Cond.instanceMethod yX6_back ∈ aBIG := aBIG_of (aT3 (List.mem_of_getElem? (i := 215) (by decide +kernel))) rfl
theorem w_791 : Cond.selects RX6 yX6_back yX6_back ∈ aBIG := aBIG_of (aT3 (List.mem_of_getElem? (i := 216) (by decide +kernel))) rfl
theorem w_792 : Cond.code yX6_back cX6_back 2 (some .int) ∈ aBIG := aBIG_of (aT3 (List.mem_of_getElem? (i := 217) (by decide +kernel))) rfl
theorem w_793 : Cond.methodLink RL 108 yX6_count ∈ aBIG := aBIG_of (aT3 (List.mem_of_getElem? (i := 218) (by decide +kernel))) rfl
theorem w_794 : Cond.instanceMethod yX6_count ∈ aBIG := aBIG_of (aT3 (List.mem_of_getElem? (i := 219) (by decide +kernel))) rfl
theorem w_795 : Cond.selects RX6 yX6_count yX6_count ∈ aBIG := aBIG_of (aT3 (List.mem_of_getElem? (i := 220) (by decide +kernel))) rfl
theorem w_796 : Cond.code yX6_count cX6_count 2 (some .int) ∈ aBIG := aBIG_of (aT3 (List.mem_of_getElem? (i := 221) (by decide +kernel))) rfl
theorem w_797 : Cond.methodLink RX6 272 yX6_bumpsOfAll ∈ aBIG := aBIG_of (aT3 (List.mem_of_getElem? (i := 222) (by decide +kernel))) rfl
theorem w_799 : Cond.instanceMethod yX6_bumpsOfAll ∈ aBIG := aBIG_of (aT3 (List.mem_of_getElem? (i := 224) (by decide +kernel))) rfl
theorem w_800 : Cond.code yX6_bumpsOfAll cX6_bumpsOfAll 3 (some .int) ∈ aBIG := aBIG_of (aT3 (List.mem_of_getElem? (i := 225) (by decide +kernel))) rfl
theorem w_801 : Cond.methodLink RL 112 yX6_sheet ∈ aBIG := aBIG_of (aT3 (List.mem_of_getElem? (i := 226) (by decide +kernel))) rfl
theorem w_802 : Cond.instanceMethod yX6_sheet ∈ aBIG := aBIG_of (aT3 (List.mem_of_getElem? (i := 227) (by decide +kernel))) rfl
theorem w_803 : Cond.selects RX6 yX6_sheet yX6_sheet ∈ aBIG := aBIG_of (aT3 (List.mem_of_getElem? (i := 228) (by decide +kernel))) rfl
theorem w_804 : Cond.code yX6_sheet cX6_sheet 5 (some .int) ∈ aBIG := aBIG_of (aT3 (List.mem_of_getElem? (i := 229) (by decide +kernel))) rfl
theorem w_805 : Cond.methodLink RL 116 yX6_cell ∈ aBIG := aBIG_of (aT3 (List.mem_of_getElem? (i := 230) (by decide +kernel))) rfl
theorem w_806 : Cond.instanceMethod yX6_cell ∈ aBIG := aBIG_of (aT3 (List.mem_of_getElem? (i := 231) (by decide +kernel))) rfl
theorem w_807 : Cond.selects RX6 yX6_cell yX6_cell ∈ aBIG := aBIG_of (aT3 (List.mem_of_getElem? (i := 232) (by decide +kernel))) rfl
theorem w_808 : Cond.code yX6_cell cX6_cell 5 (some .int) ∈ aBIG := aBIG_of (aT3 (List.mem_of_getElem? (i := 233) (by decide +kernel))) rfl
theorem w_809 : Cond.methodLink RX6 276 yX2_has ∈ aBIG := aBIG_of (aT3 (List.mem_of_getElem? (i := 234) (by decide +kernel))) rfl
theorem w_810 : Cond.methodLink RL 120 yX6_copy ∈ aBIG := aBIG_of (aT3 (List.mem_of_getElem? (i := 235) (by decide +kernel))) rfl
theorem w_811 : Cond.instanceMethod yX6_copy ∈ aBIG := aBIG_of (aT3 (List.mem_of_getElem? (i := 236) (by decide +kernel))) rfl
theorem w_812 : Cond.selects RX6 yX6_copy yX6_copy ∈ aBIG := aBIG_of (aT3 (List.mem_of_getElem? (i := 237) (by decide +kernel))) rfl
theorem w_813 : Cond.code yX6_copy cX6_copy 8 (some .int) ∈ aBIG := aBIG_of (aT3 (List.mem_of_getElem? (i := 238) (by decide +kernel))) rfl
theorem w_814 : Cond.methodLink RX6 279 yX2_hasRun ∈ aBIG := aBIG_of (aT3 (List.mem_of_getElem? (i := 239) (by decide +kernel))) rfl
theorem w_815 : Cond.instanceMethod yX2_hasRun ∈ aBIG := aBIG_of (aT4 (List.mem_of_getElem? (i := 0) (by decide +kernel))) rfl
theorem w_816 : Cond.selects RX2 yX2_hasRun yX2_hasRun ∈ aBIG := aBIG_of (aT4 (List.mem_of_getElem? (i := 1) (by decide +kernel))) rfl
theorem w_817 : Cond.code yX2_hasRun cX2_hasRun 3 (some .boolean) ∈ aBIG := aBIG_of (aT4 (List.mem_of_getElem? (i := 2) (by decide +kernel))) rfl
theorem w_818 : Cond.methodLink RX6 286 arraycopyName ∈ aBIG := aBIG_of (aT4 (List.mem_of_getElem? (i := 3) (by decide +kernel))) rfl
theorem w_819 : Cond.methodLink RL 125 yX6_learners ∈ aBIG := aBIG_of (aT4 (List.mem_of_getElem? (i := 4) (by decide +kernel))) rfl
theorem w_820 : Cond.instanceMethod yX6_learners ∈ aBIG := aBIG_of (aT4 (List.mem_of_getElem? (i := 5) (by decide +kernel))) rfl
theorem w_821 : Cond.selects RX6 yX6_learners yX6_learners ∈ aBIG := aBIG_of (aT4 (List.mem_of_getElem? (i := 6) (by decide +kernel))) rfl
theorem w_822 : Cond.code yX6_learners cX6_learners 9 (some .int) ∈ aBIG := aBIG_of (aT4 (List.mem_of_getElem? (i := 7) (by decide +kernel))) rfl
theorem w_823 : Cond.methodLink RL 129 yX6_taken ∈ aBIG := aBIG_of (aT4 (List.mem_of_getElem? (i := 8) (by decide +kernel))) rfl
theorem w_824 : Cond.instanceMethod yX6_taken ∈ aBIG := aBIG_of (aT4 (List.mem_of_getElem? (i := 9) (by decide +kernel))) rfl
theorem w_825 : Cond.selects RX6 yX6_taken yX6_taken ∈ aBIG := aBIG_of (aT4 (List.mem_of_getElem? (i := 10) (by decide +kernel))) rfl
theorem w_826 : Cond.code yX6_taken cX6_taken 4 (some .int) ∈ aBIG := aBIG_of (aT4 (List.mem_of_getElem? (i := 11) (by decide +kernel))) rfl
theorem w_827 : Cond.methodLink RX6 292 yX0_isOfKind ∈ aBIG := aBIG_of (aT4 (List.mem_of_getElem? (i := 12) (by decide +kernel))) rfl
theorem w_828 : Cond.instanceMethod yX0_isOfKind ∈ aBIG := aBIG_of (aT4 (List.mem_of_getElem? (i := 13) (by decide +kernel))) rfl
theorem w_829 : Cond.selects RX0 yX0_isOfKind yX0_isOfKind ∈ aBIG := aBIG_of (aT4 (List.mem_of_getElem? (i := 14) (by decide +kernel))) rfl
theorem w_830 : Cond.code yX0_isOfKind cX0_isOfKind 4 (some .boolean) ∈ aBIG := aBIG_of (aT4 (List.mem_of_getElem? (i := 15) (by decide +kernel))) rfl
theorem w_833 : Cond.classLink RL 10 RX7 ∈ aBIG := aBIG_of (aT4 (List.mem_of_getElem? (i := 18) (by decide +kernel))) rfl
theorem w_834 : Cond.instantiable RX7 41 ∈ aBIG := aBIG_of (aT4 (List.mem_of_getElem? (i := 19) (by decide +kernel))) rfl
theorem w_835 : Cond.methodLink RL 12 yX7_init ∈ aBIG := aBIG_of (aT4 (List.mem_of_getElem? (i := 20) (by decide +kernel))) rfl
theorem w_836 : Cond.instanceMethod yX7_init ∈ aBIG := aBIG_of (aT4 (List.mem_of_getElem? (i := 21) (by decide +kernel))) rfl
theorem w_837 : Cond.code yX7_init cX7_init 2 none ∈ aBIG := aBIG_of (aT4 (List.mem_of_getElem? (i := 22) (by decide +kernel))) rfl
theorem w_838 : Cond.methodLink RX7 7 Lib.objectInit ∈ aBIG := aBIG_of (aT4 (List.mem_of_getElem? (i := 23) (by decide +kernel))) rfl
theorem w_839 : Cond.methodLink RX7 66 yX7_spell ∈ aBIG := aBIG_of (aT4 (List.mem_of_getElem? (i := 24) (by decide +kernel))) rfl
theorem w_841 : Cond.instanceMethod yX7_spell ∈ aBIG := aBIG_of (aT4 (List.mem_of_getElem? (i := 26) (by decide +kernel))) rfl
theorem w_842 : Cond.code yX7_spell cX7_spell 10 none ∈ aBIG := aBIG_of (aT4 (List.mem_of_getElem? (i := 27) (by decide +kernel))) rfl
theorem w_843 : Cond.fieldLink RX7 13 (TX7 1).1 (TX7 1).2.1 (TX7 1).2.2.1 ∈ aBIG := aBIG_of (aT4 (List.mem_of_getElem? (i := 28) (by decide +kernel))) rfl
theorem w_844 : Cond.fieldLink RX7 17 (TX7 2).1 (TX7 2).2.1 (TX7 2).2.2.1 ∈ aBIG := aBIG_of (aT4 (List.mem_of_getElem? (i := 29) (by decide +kernel))) rfl
theorem w_845 : Cond.fieldLink RX7 70 (TX7 3).1 (TX7 3).2.1 (TX7 3).2.2.1 ∈ aBIG := aBIG_of (aT4 (List.mem_of_getElem? (i := 30) (by decide +kernel))) rfl
theorem w_846 : Cond.fieldLink RX7 117 (TX7 4).1 (TX7 4).2.1 (TX7 4).2.2.1 ∈ aBIG := aBIG_of (aT4 (List.mem_of_getElem? (i := 31) (by decide +kernel))) rfl
theorem w_847 : Cond.fieldLink RX7 20 (TX7 5).1 (TX7 5).2.1 (TX7 5).2.2.1 ∈ aBIG := aBIG_of (aT4 (List.mem_of_getElem? (i := 32) (by decide +kernel))) rfl
theorem w_848 : Cond.fieldLink RX7 136 (TX7 6).1 (TX7 6).2.1 (TX7 6).2.2.1 ∈ aBIG := aBIG_of (aT4 (List.mem_of_getElem? (i := 33) (by decide +kernel))) rfl
theorem w_849 : Cond.fieldLink RX7 111 (TX7 7).1 (TX7 7).2.1 (TX7 7).2.2.1 ∈ aBIG := aBIG_of (aT4 (List.mem_of_getElem? (i := 34) (by decide +kernel))) rfl
theorem w_850 : Cond.fieldLink RX7 23 (TX7 8).1 (TX7 8).2.1 (TX7 8).2.2.1 ∈ aBIG := aBIG_of (aT4 (List.mem_of_getElem? (i := 35) (by decide +kernel))) rfl
theorem w_851 : Cond.fieldLink RX7 26 (TX7 9).1 (TX7 9).2.1 (TX7 9).2.2.1 ∈ aBIG := aBIG_of (aT4 (List.mem_of_getElem? (i := 36) (by decide +kernel))) rfl
theorem w_852 : Cond.fieldLink RX7 29 (TX7 10).1 (TX7 10).2.1 (TX7 10).2.2.1 ∈ aBIG := aBIG_of (aT4 (List.mem_of_getElem? (i := 37) (by decide +kernel))) rfl
theorem w_853 : Cond.fieldLink RX7 32 (TX7 11).1 (TX7 11).2.1 (TX7 11).2.2.1 ∈ aBIG := aBIG_of (aT4 (List.mem_of_getElem? (i := 38) (by decide +kernel))) rfl
theorem w_854 : Cond.fieldLink RX7 73 (TX7 12).1 (TX7 12).2.1 (TX7 12).2.2.1 ∈ aBIG := aBIG_of (aT4 (List.mem_of_getElem? (i := 39) (by decide +kernel))) rfl
theorem w_855 : Cond.fieldLink RX7 192 (TX7 13).1 (TX7 13).2.1 (TX7 13).2.2.1 ∈ aBIG := aBIG_of (aT4 (List.mem_of_getElem? (i := 40) (by decide +kernel))) rfl
theorem w_856 : Cond.fieldLink RX7 195 (TX7 14).1 (TX7 14).2.1 (TX7 14).2.2.1 ∈ aBIG := aBIG_of (aT4 (List.mem_of_getElem? (i := 41) (by decide +kernel))) rfl
theorem w_857 : Cond.fieldLink RX7 198 (TX7 15).1 (TX7 15).2.1 (TX7 15).2.2.1 ∈ aBIG := aBIG_of (aT4 (List.mem_of_getElem? (i := 42) (by decide +kernel))) rfl
theorem w_858 : Cond.fieldLink RX7 201 (TX7 16).1 (TX7 16).2.1 (TX7 16).2.2.1 ∈ aBIG := aBIG_of (aT4 (List.mem_of_getElem? (i := 43) (by decide +kernel))) rfl
theorem w_859 : Cond.fieldLink RX7 204 (TX7 17).1 (TX7 17).2.1 (TX7 17).2.2.1 ∈ aBIG := aBIG_of (aT4 (List.mem_of_getElem? (i := 44) (by decide +kernel))) rfl
theorem w_860 : Cond.fieldLink RX7 207 (TX7 18).1 (TX7 18).2.1 (TX7 18).2.2.1 ∈ aBIG := aBIG_of (aT4 (List.mem_of_getElem? (i := 45) (by decide +kernel))) rfl
theorem w_861 : Cond.fieldLink RX7 142 (TX7 19).1 (TX7 19).2.1 (TX7 19).2.2.1 ∈ aBIG := aBIG_of (aT4 (List.mem_of_getElem? (i := 46) (by decide +kernel))) rfl
theorem w_862 : Cond.fieldLink RX7 139 (TX7 20).1 (TX7 20).2.1 (TX7 20).2.2.1 ∈ aBIG := aBIG_of (aT4 (List.mem_of_getElem? (i := 47) (by decide +kernel))) rfl
theorem w_863 : Cond.fieldLink RX7 145 (TX7 21).1 (TX7 21).2.1 (TX7 21).2.2.1 ∈ aBIG := aBIG_of (aT4 (List.mem_of_getElem? (i := 48) (by decide +kernel))) rfl
theorem w_864 : Cond.fieldLink RX7 154 (TX7 22).1 (TX7 22).2.1 (TX7 22).2.2.1 ∈ aBIG := aBIG_of (aT4 (List.mem_of_getElem? (i := 49) (by decide +kernel))) rfl
theorem w_865 : Cond.fieldLink RX7 151 (TX7 23).1 (TX7 23).2.1 (TX7 23).2.2.1 ∈ aBIG := aBIG_of (aT4 (List.mem_of_getElem? (i := 50) (by decide +kernel))) rfl
theorem w_866 : Cond.fieldLink RX7 165 (TX7 24).1 (TX7 24).2.1 (TX7 24).2.2.1 ∈ aBIG := aBIG_of (aT4 (List.mem_of_getElem? (i := 51) (by decide +kernel))) rfl
theorem w_867 : Cond.fieldLink RX7 179 (TX7 25).1 (TX7 25).2.1 (TX7 25).2.2.1 ∈ aBIG := aBIG_of (aT4 (List.mem_of_getElem? (i := 52) (by decide +kernel))) rfl
theorem w_868 : Cond.fieldLink RX7 169 (TX7 26).1 (TX7 26).2.1 (TX7 26).2.2.1 ∈ aBIG := aBIG_of (aT4 (List.mem_of_getElem? (i := 53) (by decide +kernel))) rfl
theorem w_869 : Cond.fieldLink RX7 173 (TX7 27).1 (TX7 27).2.1 (TX7 27).2.2.1 ∈ aBIG := aBIG_of (aT4 (List.mem_of_getElem? (i := 54) (by decide +kernel))) rfl
theorem w_870 : Cond.fieldLink RX7 35 (TX7 28).1 (TX7 28).2.1 (TX7 28).2.2.1 ∈ aBIG := aBIG_of (aT4 (List.mem_of_getElem? (i := 55) (by decide +kernel))) rfl
theorem w_871 : Cond.fieldLink RX7 372 (TX7 29).1 (TX7 29).2.1 (TX7 29).2.2.1 ∈ aBIG := aBIG_of (aT4 (List.mem_of_getElem? (i := 56) (by decide +kernel))) rfl
theorem w_872 : Cond.fieldLink RX7 38 (TX7 30).1 (TX7 30).2.1 (TX7 30).2.2.1 ∈ aBIG := aBIG_of (aT4 (List.mem_of_getElem? (i := 57) (by decide +kernel))) rfl
theorem w_873 : Cond.fieldLink RX7 41 (TX7 31).1 (TX7 31).2.1 (TX7 31).2.2.1 ∈ aBIG := aBIG_of (aT4 (List.mem_of_getElem? (i := 58) (by decide +kernel))) rfl
theorem w_874 : Cond.fieldLink RX7 44 (TX7 32).1 (TX7 32).2.1 (TX7 32).2.2.1 ∈ aBIG := aBIG_of (aT4 (List.mem_of_getElem? (i := 59) (by decide +kernel))) rfl
theorem w_875 : Cond.fieldLink RX7 47 (TX7 33).1 (TX7 33).2.1 (TX7 33).2.2.1 ∈ aBIG := aBIG_of (aT4 (List.mem_of_getElem? (i := 60) (by decide +kernel))) rfl
theorem w_876 : Cond.fieldLink RX7 50 (TX7 34).1 (TX7 34).2.1 (TX7 34).2.2.1 ∈ aBIG := aBIG_of (aT4 (List.mem_of_getElem? (i := 61) (by decide +kernel))) rfl
theorem w_877 : Cond.fieldLink RX7 422 (TX7 35).1 (TX7 35).2.1 (TX7 35).2.2.1 ∈ aBIG := aBIG_of (aT4 (List.mem_of_getElem? (i := 62) (by decide +kernel))) rfl
theorem w_878 : Cond.fieldLink RX7 425 (TX7 36).1 (TX7 36).2.1 (TX7 36).2.2.1 ∈ aBIG := aBIG_of (aT4 (List.mem_of_getElem? (i := 63) (by decide +kernel))) rfl
theorem w_879 : Cond.fieldLink RX7 53 (TX7 37).1 (TX7 37).2.1 (TX7 37).2.2.1 ∈ aBIG := aBIG_of (aT4 (List.mem_of_getElem? (i := 64) (by decide +kernel))) rfl
theorem w_880 : Cond.fieldLink RX7 57 (TX7 38).1 (TX7 38).2.1 (TX7 38).2.2.1 ∈ aBIG := aBIG_of (aT4 (List.mem_of_getElem? (i := 65) (by decide +kernel))) rfl
theorem w_881 : Cond.fieldLink RX7 60 (TX7 39).1 (TX7 39).2.1 (TX7 39).2.2.1 ∈ aBIG := aBIG_of (aT4 (List.mem_of_getElem? (i := 66) (by decide +kernel))) rfl
theorem w_882 : Cond.fieldLink RX7 63 (TX7 40).1 (TX7 40).2.1 (TX7 40).2.2.1 ∈ aBIG := aBIG_of (aT4 (List.mem_of_getElem? (i := 67) (by decide +kernel))) rfl
theorem w_966 : Cond.arrayClass .boolean ∈ aBIG := aBIG_of (aT4 (List.mem_of_getElem? (i := 151) (by decide +kernel))) rfl
theorem w_967 : Cond.methodLink RL 17 yX7_set ∈ aBIG := aBIG_of (aT4 (List.mem_of_getElem? (i := 152) (by decide +kernel))) rfl
theorem w_968 : Cond.instanceMethod yX7_set ∈ aBIG := aBIG_of (aT4 (List.mem_of_getElem? (i := 153) (by decide +kernel))) rfl
theorem w_969 : Cond.selects RX7 yX7_set yX7_set ∈ aBIG := aBIG_of (aT4 (List.mem_of_getElem? (i := 154) (by decide +kernel))) rfl
theorem w_970 : Cond.code yX7_set cX7_set 5 (some .int) ∈ aBIG := aBIG_of (aT4 (List.mem_of_getElem? (i := 155) (by decide +kernel))) rfl
theorem w_971 : Cond.constantLong RX7 89 (4) ∈ aBIG := aBIG_of (aT4 (List.mem_of_getElem? (i := 156) (by decide +kernel))) rfl
theorem w_972 : Cond.methodLink RX7 76 yX7_in ∈ aBIG := aBIG_of (aT4 (List.mem_of_getElem? (i := 157) (by decide +kernel))) rfl
theorem w_973 : Cond.static yX7_in ∈ aBIG := aBIG_of (aT4 (List.mem_of_getElem? (i := 158) (by decide +kernel))) rfl
theorem w_974 : Cond.code yX7_in cX7_in 6 (some .boolean) ∈ aBIG := aBIG_of (aT4 (List.mem_of_getElem? (i := 159) (by decide +kernel))) rfl
theorem w_975 : Cond.constantLong RX7 91 (10) ∈ aBIG := aBIG_of (aT4 (List.mem_of_getElem? (i := 160) (by decide +kernel))) rfl
theorem w_976 : Cond.constantLong RX7 93 (17) ∈ aBIG := aBIG_of (aT4 (List.mem_of_getElem? (i := 161) (by decide +kernel))) rfl
theorem w_977 : Cond.methodLink RX7 95 yX7_isOf ∈ aBIG := aBIG_of (aT4 (List.mem_of_getElem? (i := 162) (by decide +kernel))) rfl
theorem w_979 : Cond.instanceMethod yX7_isOf ∈ aBIG := aBIG_of (aT4 (List.mem_of_getElem? (i := 164) (by decide +kernel))) rfl
theorem w_980 : Cond.code yX7_isOf cX7_isOf 3 (some .boolean) ∈ aBIG := aBIG_of (aT4 (List.mem_of_getElem? (i := 165) (by decide +kernel))) rfl
theorem w_981 : Cond.methodLink RX7 82 yX7_isStreet ∈ aBIG := aBIG_of (aT4 (List.mem_of_getElem? (i := 166) (by decide +kernel))) rfl
theorem w_982 : Cond.static yX7_isStreet ∈ aBIG := aBIG_of (aT4 (List.mem_of_getElem? (i := 167) (by decide +kernel))) rfl
theorem w_983 : Cond.code yX7_isStreet cX7_isStreet 1 (some .boolean) ∈ aBIG := aBIG_of (aT4 (List.mem_of_getElem? (i := 168) (by decide +kernel))) rfl
theorem w_984 : Cond.constantLong RX7 80 (7) ∈ aBIG := aBIG_of (aT4 (List.mem_of_getElem? (i := 169) (by decide +kernel))) rfl
theorem w_985 : Cond.methodLink RX7 86 yX7_isOne ∈ aBIG := aBIG_of (aT4 (List.mem_of_getElem? (i := 170) (by decide +kernel))) rfl
theorem w_987 : Cond.instanceMethod yX7_isOne ∈ aBIG := aBIG_of (aT4 (List.mem_of_getElem? (i := 172) (by decide +kernel))) rfl
theorem w_988 : Cond.code yX7_isOne cX7_isOne 2 (some .boolean) ∈ aBIG := aBIG_of (aT4 (List.mem_of_getElem? (i := 173) (by decide +kernel))) rfl
theorem w_989 : Cond.methodLink RX7 99 yX7_mostOf ∈ aBIG := aBIG_of (aT4 (List.mem_of_getElem? (i := 174) (by decide +kernel))) rfl
theorem w_990 : Cond.static yX7_mostOf ∈ aBIG := aBIG_of (aT4 (List.mem_of_getElem? (i := 175) (by decide +kernel))) rfl
theorem w_991 : Cond.code yX7_mostOf cX7_mostOf 1 (some .int) ∈ aBIG := aBIG_of (aT4 (List.mem_of_getElem? (i := 176) (by decide +kernel))) rfl
theorem w_992 : Cond.methodLink RX7 103 yX7_told ∈ aBIG := aBIG_of (aT4 (List.mem_of_getElem? (i := 177) (by decide +kernel))) rfl
theorem w_993 : Cond.instanceMethod yX7_told ∈ aBIG := aBIG_of (aT4 (List.mem_of_getElem? (i := 178) (by decide +kernel))) rfl
theorem w_994 : Cond.selects RX7 yX7_told yX7_told ∈ aBIG := aBIG_of (aT4 (List.mem_of_getElem? (i := 179) (by decide +kernel))) rfl
theorem w_995 : Cond.code yX7_told cX7_told 3 (some .int) ∈ aBIG := aBIG_of (aT4 (List.mem_of_getElem? (i := 180) (by decide +kernel))) rfl
theorem w_996 : Cond.constantLong RX7 124 (20) ∈ aBIG := aBIG_of (aT4 (List.mem_of_getElem? (i := 181) (by decide +kernel))) rfl
theorem w_997 : Cond.constantLong RX7 126 (27) ∈ aBIG := aBIG_of (aT4 (List.mem_of_getElem? (i := 182) (by decide +kernel))) rfl
theorem w_998 : Cond.methodLink RX7 114 yX7_at ∈ aBIG := aBIG_of (aT4 (List.mem_of_getElem? (i := 183) (by decide +kernel))) rfl
theorem w_999 : Cond.static yX7_at ∈ aBIG := aBIG_of (aT4 (List.mem_of_getElem? (i := 184) (by decide +kernel))) rfl
theorem w_1000 : Cond.code yX7_at cX7_at 2 (some .int) ∈ aBIG := aBIG_of (aT4 (List.mem_of_getElem? (i := 185) (by decide +kernel))) rfl
theorem w_1001 : Cond.methodLink RX7 128 yX7_manages ∈ aBIG := aBIG_of (aT4 (List.mem_of_getElem? (i := 186) (by decide +kernel))) rfl
theorem w_1003 : Cond.instanceMethod yX7_manages ∈ aBIG := aBIG_of (aT4 (List.mem_of_getElem? (i := 188) (by decide +kernel))) rfl
theorem w_1004 : Cond.code yX7_manages cX7_manages 3 (some .boolean) ∈ aBIG := aBIG_of (aT4 (List.mem_of_getElem? (i := 189) (by decide +kernel))) rfl
theorem w_1005 : Cond.methodLink RX7 351 yX7_overOf ∈ aBIG := aBIG_of (aT4 (List.mem_of_getElem? (i := 190) (by decide +kernel))) rfl
theorem w_1007 : Cond.instanceMethod yX7_overOf ∈ aBIG := aBIG_of (aT4 (List.mem_of_getElem? (i := 192) (by decide +kernel))) rfl
theorem w_1008 : Cond.code yX7_overOf cX7_overOf 3 (some .int) ∈ aBIG := aBIG_of (aT4 (List.mem_of_getElem? (i := 193) (by decide +kernel))) rfl
theorem w_1009 : Cond.methodLink RX7 348 yX7_nerveOf ∈ aBIG := aBIG_of (aT4 (List.mem_of_getElem? (i := 194) (by decide +kernel))) rfl
theorem w_1011 : Cond.instanceMethod yX7_nerveOf ∈ aBIG := aBIG_of (aT4 (List.mem_of_getElem? (i := 196) (by decide +kernel))) rfl
theorem w_1012 : Cond.code yX7_nerveOf cX7_nerveOf 5 (some .int) ∈ aBIG := aBIG_of (aT4 (List.mem_of_getElem? (i := 197) (by decide +kernel))) rfl
theorem w_1013 : Cond.methodLink RX7 344 yX7_says ∈ aBIG := aBIG_of (aT4 (List.mem_of_getElem? (i := 198) (by decide +kernel))) rfl
theorem w_1015 : Cond.instanceMethod yX7_says ∈ aBIG := aBIG_of (aT4 (List.mem_of_getElem? (i := 200) (by decide +kernel))) rfl
theorem w_1016 : Cond.code yX7_says cX7_says 6 (some .int) ∈ aBIG := aBIG_of (aT4 (List.mem_of_getElem? (i := 201) (by decide +kernel))) rfl
theorem w_1017 : Cond.methodLink RX7 337 yX7_read ∈ aBIG := aBIG_of (aT4 (List.mem_of_getElem? (i := 202) (by decide +kernel))) rfl
theorem w_1019 : Cond.instanceMethod yX7_read ∈ aBIG := aBIG_of (aT4 (List.mem_of_getElem? (i := 204) (by decide +kernel))) rfl
theorem w_1020 : Cond.code yX7_read cX7_read 6 (some .int) ∈ aBIG := aBIG_of (aT4 (List.mem_of_getElem? (i := 205) (by decide +kernel))) rfl
theorem w_1021 : Cond.methodLink RX7 185 yX7_next ∈ aBIG := aBIG_of (aT4 (List.mem_of_getElem? (i := 206) (by decide +kernel))) rfl
theorem w_1023 : Cond.instanceMethod yX7_next ∈ aBIG := aBIG_of (aT4 (List.mem_of_getElem? (i := 208) (by decide +kernel))) rfl
theorem w_1024 : Cond.code yX7_next cX7_next 3 none ∈ aBIG := aBIG_of (aT4 (List.mem_of_getElem? (i := 209) (by decide +kernel))) rfl
theorem w_1025 : Cond.methodLink RX7 148 yX7_byteAt ∈ aBIG := aBIG_of (aT4 (List.mem_of_getElem? (i := 210) (by decide +kernel))) rfl
theorem w_1027 : Cond.instanceMethod yX7_byteAt ∈ aBIG := aBIG_of (aT4 (List.mem_of_getElem? (i := 212) (by decide +kernel))) rfl
theorem w_1028 : Cond.code yX7_byteAt cX7_byteAt 2 (some .int) ∈ aBIG := aBIG_of (aT4 (List.mem_of_getElem? (i := 213) (by decide +kernel))) rfl
theorem w_1029 : Cond.constantLong RX7 157 (97) ∈ aBIG := aBIG_of (aT4 (List.mem_of_getElem? (i := 214) (by decide +kernel))) rfl
theorem w_1030 : Cond.constantLong RX7 159 (122) ∈ aBIG := aBIG_of (aT4 (List.mem_of_getElem? (i := 215) (by decide +kernel))) rfl
theorem w_1031 : Cond.constantLong RX7 161 (48) ∈ aBIG := aBIG_of (aT4 (List.mem_of_getElem? (i := 216) (by decide +kernel))) rfl
theorem w_1032 : Cond.constantLong RX7 163 (57) ∈ aBIG := aBIG_of (aT4 (List.mem_of_getElem? (i := 217) (by decide +kernel))) rfl
theorem w_1033 : Cond.methodLink RX7 188 yX7_isWord ∈ aBIG := aBIG_of (aT4 (List.mem_of_getElem? (i := 218) (by decide +kernel))) rfl
theorem w_1035 : Cond.instanceMethod yX7_isWord ∈ aBIG := aBIG_of (aT4 (List.mem_of_getElem? (i := 220) (by decide +kernel))) rfl
theorem w_1036 : Cond.code yX7_isWord cX7_isWord 9 (some .boolean) ∈ aBIG := aBIG_of (aT4 (List.mem_of_getElem? (i := 221) (by decide +kernel))) rfl
theorem w_1037 : Cond.methodLink RX7 176 yX7_isLetter ∈ aBIG := aBIG_of (aT4 (List.mem_of_getElem? (i := 222) (by decide +kernel))) rfl
theorem w_1039 : Cond.instanceMethod yX7_isLetter ∈ aBIG := aBIG_of (aT4 (List.mem_of_getElem? (i := 224) (by decide +kernel))) rfl
theorem w_1040 : Cond.code yX7_isLetter cX7_isLetter 3 (some .boolean) ∈ aBIG := aBIG_of (aT4 (List.mem_of_getElem? (i := 225) (by decide +kernel))) rfl
theorem w_1041 : Cond.methodLink RX7 333 yX7_part ∈ aBIG := aBIG_of (aT4 (List.mem_of_getElem? (i := 226) (by decide +kernel))) rfl
theorem w_1043 : Cond.instanceMethod yX7_part ∈ aBIG := aBIG_of (aT4 (List.mem_of_getElem? (i := 228) (by decide +kernel))) rfl
theorem w_1044 : Cond.code yX7_part cX7_part 3 (some .int) ∈ aBIG := aBIG_of (aT4 (List.mem_of_getElem? (i := 229) (by decide +kernel))) rfl
theorem w_1045 : Cond.methodLink RX7 182 yX7_fail ∈ aBIG := aBIG_of (aT4 (List.mem_of_getElem? (i := 230) (by decide +kernel))) rfl
theorem w_1047 : Cond.instanceMethod yX7_fail ∈ aBIG := aBIG_of (aT4 (List.mem_of_getElem? (i := 232) (by decide +kernel))) rfl
theorem w_1048 : Cond.code yX7_fail cX7_fail 1 none ∈ aBIG := aBIG_of (aT4 (List.mem_of_getElem? (i := 233) (by decide +kernel))) rfl
theorem w_1049 : Cond.methodLink RX7 330 yX7_either0 ∈ aBIG := aBIG_of (aT4 (List.mem_of_getElem? (i := 234) (by decide +kernel))) rfl
theorem w_1051 : Cond.instanceMethod yX7_either0 ∈ aBIG := aBIG_of (aT4 (List.mem_of_getElem? (i := 236) (by decide +kernel))) rfl
theorem w_1052 : Cond.code yX7_either0 cX7_either0 3 (some .int) ∈ aBIG := aBIG_of (aT4 (List.mem_of_getElem? (i := 237) (by decide +kernel))) rfl
theorem w_1053 : Cond.methodLink RX7 327 yX7_both0 ∈ aBIG := aBIG_of (aT4 (List.mem_of_getElem? (i := 238) (by decide +kernel))) rfl
theorem w_1055 : Cond.instanceMethod yX7_both0 ∈ aBIG := aBIG_of (aT5 (List.mem_of_getElem? (i := 0) (by decide +kernel))) rfl
theorem w_1056 : Cond.code yX7_both0 cX7_both0 3 (some .int) ∈ aBIG := aBIG_of (aT5 (List.mem_of_getElem? (i := 1) (by decide +kernel))) rfl
theorem w_1057 : Cond.methodLink RX7 324 yX7_not0 ∈ aBIG := aBIG_of (aT5 (List.mem_of_getElem? (i := 2) (by decide +kernel))) rfl
theorem w_1059 : Cond.instanceMethod yX7_not0 ∈ aBIG := aBIG_of (aT5 (List.mem_of_getElem? (i := 4) (by decide +kernel))) rfl
theorem w_1060 : Cond.code yX7_not0 cX7_not0 4 (some .int) ∈ aBIG := aBIG_of (aT5 (List.mem_of_getElem? (i := 5) (by decide +kernel))) rfl
theorem w_1061 : Cond.methodLink RX7 213 yX7_opens ∈ aBIG := aBIG_of (aT5 (List.mem_of_getElem? (i := 6) (by decide +kernel))) rfl
theorem w_1063 : Cond.instanceMethod yX7_opens ∈ aBIG := aBIG_of (aT5 (List.mem_of_getElem? (i := 8) (by decide +kernel))) rfl
theorem w_1064 : Cond.code yX7_opens cX7_opens 1 (some .boolean) ∈ aBIG := aBIG_of (aT5 (List.mem_of_getElem? (i := 9) (by decide +kernel))) rfl
theorem w_1065 : Cond.methodLink RX7 306 yX7_not1 ∈ aBIG := aBIG_of (aT5 (List.mem_of_getElem? (i := 10) (by decide +kernel))) rfl
theorem w_1067 : Cond.instanceMethod yX7_not1 ∈ aBIG := aBIG_of (aT5 (List.mem_of_getElem? (i := 12) (by decide +kernel))) rfl
theorem w_1068 : Cond.code yX7_not1 cX7_not1 4 (some .int) ∈ aBIG := aBIG_of (aT5 (List.mem_of_getElem? (i := 13) (by decide +kernel))) rfl
theorem w_1069 : Cond.methodLink RX7 288 yX7_not2 ∈ aBIG := aBIG_of (aT5 (List.mem_of_getElem? (i := 14) (by decide +kernel))) rfl
theorem w_1071 : Cond.instanceMethod yX7_not2 ∈ aBIG := aBIG_of (aT5 (List.mem_of_getElem? (i := 16) (by decide +kernel))) rfl
theorem w_1072 : Cond.code yX7_not2 cX7_not2 4 (some .int) ∈ aBIG := aBIG_of (aT5 (List.mem_of_getElem? (i := 17) (by decide +kernel))) rfl
theorem w_1073 : Cond.methodLink RX7 270 yX7_not3 ∈ aBIG := aBIG_of (aT5 (List.mem_of_getElem? (i := 18) (by decide +kernel))) rfl
theorem w_1075 : Cond.instanceMethod yX7_not3 ∈ aBIG := aBIG_of (aT5 (List.mem_of_getElem? (i := 20) (by decide +kernel))) rfl
theorem w_1076 : Cond.code yX7_not3 cX7_not3 4 (some .int) ∈ aBIG := aBIG_of (aT5 (List.mem_of_getElem? (i := 21) (by decide +kernel))) rfl
theorem w_1077 : Cond.methodLink RX7 252 yX7_not4 ∈ aBIG := aBIG_of (aT5 (List.mem_of_getElem? (i := 22) (by decide +kernel))) rfl
theorem w_1079 : Cond.instanceMethod yX7_not4 ∈ aBIG := aBIG_of (aT5 (List.mem_of_getElem? (i := 24) (by decide +kernel))) rfl
theorem w_1080 : Cond.code yX7_not4 cX7_not4 4 (some .int) ∈ aBIG := aBIG_of (aT5 (List.mem_of_getElem? (i := 25) (by decide +kernel))) rfl
theorem w_1081 : Cond.methodLink RX7 234 yX7_not5 ∈ aBIG := aBIG_of (aT5 (List.mem_of_getElem? (i := 26) (by decide +kernel))) rfl
theorem w_1083 : Cond.instanceMethod yX7_not5 ∈ aBIG := aBIG_of (aT5 (List.mem_of_getElem? (i := 28) (by decide +kernel))) rfl
theorem w_1084 : Cond.code yX7_not5 cX7_not5 4 (some .int) ∈ aBIG := aBIG_of (aT5 (List.mem_of_getElem? (i := 29) (by decide +kernel))) rfl
theorem w_1085 : Cond.methodLink RX7 229 yX7_added5 ∈ aBIG := aBIG_of (aT5 (List.mem_of_getElem? (i := 30) (by decide +kernel))) rfl
theorem w_1087 : Cond.instanceMethod yX7_added5 ∈ aBIG := aBIG_of (aT5 (List.mem_of_getElem? (i := 32) (by decide +kernel))) rfl
theorem w_1088 : Cond.code yX7_added5 cX7_added5 4 (some .int) ∈ aBIG := aBIG_of (aT5 (List.mem_of_getElem? (i := 33) (by decide +kernel))) rfl
theorem w_1089 : Cond.methodLink RX7 224 yX7_term5 ∈ aBIG := aBIG_of (aT5 (List.mem_of_getElem? (i := 34) (by decide +kernel))) rfl
theorem w_1091 : Cond.instanceMethod yX7_term5 ∈ aBIG := aBIG_of (aT5 (List.mem_of_getElem? (i := 36) (by decide +kernel))) rfl
theorem w_1092 : Cond.code yX7_term5 cX7_term5 2 (some .int) ∈ aBIG := aBIG_of (aT5 (List.mem_of_getElem? (i := 37) (by decide +kernel))) rfl
theorem w_1093 : Cond.methodLink RX7 221 yX7_atom5 ∈ aBIG := aBIG_of (aT5 (List.mem_of_getElem? (i := 38) (by decide +kernel))) rfl
theorem w_1095 : Cond.instanceMethod yX7_atom5 ∈ aBIG := aBIG_of (aT5 (List.mem_of_getElem? (i := 40) (by decide +kernel))) rfl
theorem w_1096 : Cond.code yX7_atom5 cX7_atom5 2 (some .int) ∈ aBIG := aBIG_of (aT5 (List.mem_of_getElem? (i := 41) (by decide +kernel))) rfl
theorem w_1097 : Cond.methodLink RX7 210 yX7_isSign ∈ aBIG := aBIG_of (aT5 (List.mem_of_getElem? (i := 42) (by decide +kernel))) rfl
theorem w_1099 : Cond.instanceMethod yX7_isSign ∈ aBIG := aBIG_of (aT5 (List.mem_of_getElem? (i := 44) (by decide +kernel))) rfl
theorem w_1100 : Cond.code yX7_isSign cX7_isSign 2 (some .boolean) ∈ aBIG := aBIG_of (aT5 (List.mem_of_getElem? (i := 45) (by decide +kernel))) rfl
theorem w_1101 : Cond.methodLink RX7 217 yX7_name ∈ aBIG := aBIG_of (aT5 (List.mem_of_getElem? (i := 46) (by decide +kernel))) rfl
theorem w_1103 : Cond.instanceMethod yX7_name ∈ aBIG := aBIG_of (aT5 (List.mem_of_getElem? (i := 48) (by decide +kernel))) rfl
theorem w_1104 : Cond.code yX7_name cX7_name 1 (some .int) ∈ aBIG := aBIG_of (aT5 (List.mem_of_getElem? (i := 49) (by decide +kernel))) rfl
theorem w_1105 : Cond.constantLong RX7 227 (43) ∈ aBIG := aBIG_of (aT5 (List.mem_of_getElem? (i := 50) (by decide +kernel))) rfl
theorem w_1106 : Cond.constantLong RX7 232 (60) ∈ aBIG := aBIG_of (aT5 (List.mem_of_getElem? (i := 51) (by decide +kernel))) rfl
theorem w_1107 : Cond.methodLink RX7 249 yX7_added4 ∈ aBIG := aBIG_of (aT5 (List.mem_of_getElem? (i := 52) (by decide +kernel))) rfl
theorem w_1109 : Cond.instanceMethod yX7_added4 ∈ aBIG := aBIG_of (aT5 (List.mem_of_getElem? (i := 54) (by decide +kernel))) rfl
theorem w_1110 : Cond.code yX7_added4 cX7_added4 4 (some .int) ∈ aBIG := aBIG_of (aT5 (List.mem_of_getElem? (i := 55) (by decide +kernel))) rfl
theorem w_1111 : Cond.methodLink RX7 246 yX7_term4 ∈ aBIG := aBIG_of (aT5 (List.mem_of_getElem? (i := 56) (by decide +kernel))) rfl
theorem w_1113 : Cond.instanceMethod yX7_term4 ∈ aBIG := aBIG_of (aT5 (List.mem_of_getElem? (i := 58) (by decide +kernel))) rfl
theorem w_1114 : Cond.code yX7_term4 cX7_term4 2 (some .int) ∈ aBIG := aBIG_of (aT5 (List.mem_of_getElem? (i := 59) (by decide +kernel))) rfl
theorem w_1115 : Cond.methodLink RX7 243 yX7_atom4 ∈ aBIG := aBIG_of (aT5 (List.mem_of_getElem? (i := 60) (by decide +kernel))) rfl
theorem w_1117 : Cond.instanceMethod yX7_atom4 ∈ aBIG := aBIG_of (aT5 (List.mem_of_getElem? (i := 62) (by decide +kernel))) rfl
theorem w_1118 : Cond.code yX7_atom4 cX7_atom4 2 (some .int) ∈ aBIG := aBIG_of (aT5 (List.mem_of_getElem? (i := 63) (by decide +kernel))) rfl
theorem w_1119 : Cond.methodLink RX7 240 yX7_either5 ∈ aBIG := aBIG_of (aT5 (List.mem_of_getElem? (i := 64) (by decide +kernel))) rfl
theorem w_1121 : Cond.instanceMethod yX7_either5 ∈ aBIG := aBIG_of (aT5 (List.mem_of_getElem? (i := 66) (by decide +kernel))) rfl
theorem w_1122 : Cond.code yX7_either5 cX7_either5 3 (some .int) ∈ aBIG := aBIG_of (aT5 (List.mem_of_getElem? (i := 67) (by decide +kernel))) rfl
theorem w_1123 : Cond.methodLink RX7 237 yX7_both5 ∈ aBIG := aBIG_of (aT5 (List.mem_of_getElem? (i := 68) (by decide +kernel))) rfl
theorem w_1125 : Cond.instanceMethod yX7_both5 ∈ aBIG := aBIG_of (aT5 (List.mem_of_getElem? (i := 70) (by decide +kernel))) rfl
theorem w_1126 : Cond.code yX7_both5 cX7_both5 3 (some .int) ∈ aBIG := aBIG_of (aT5 (List.mem_of_getElem? (i := 71) (by decide +kernel))) rfl
theorem w_1127 : Cond.methodLink RX7 267 yX7_added3 ∈ aBIG := aBIG_of (aT5 (List.mem_of_getElem? (i := 72) (by decide +kernel))) rfl
theorem w_1129 : Cond.instanceMethod yX7_added3 ∈ aBIG := aBIG_of (aT5 (List.mem_of_getElem? (i := 74) (by decide +kernel))) rfl
theorem w_1130 : Cond.code yX7_added3 cX7_added3 4 (some .int) ∈ aBIG := aBIG_of (aT5 (List.mem_of_getElem? (i := 75) (by decide +kernel))) rfl
theorem w_1131 : Cond.methodLink RX7 264 yX7_term3 ∈ aBIG := aBIG_of (aT5 (List.mem_of_getElem? (i := 76) (by decide +kernel))) rfl
theorem w_1133 : Cond.instanceMethod yX7_term3 ∈ aBIG := aBIG_of (aT5 (List.mem_of_getElem? (i := 78) (by decide +kernel))) rfl
theorem w_1134 : Cond.code yX7_term3 cX7_term3 2 (some .int) ∈ aBIG := aBIG_of (aT5 (List.mem_of_getElem? (i := 79) (by decide +kernel))) rfl
theorem w_1135 : Cond.methodLink RX7 261 yX7_atom3 ∈ aBIG := aBIG_of (aT5 (List.mem_of_getElem? (i := 80) (by decide +kernel))) rfl
theorem w_1137 : Cond.instanceMethod yX7_atom3 ∈ aBIG := aBIG_of (aT5 (List.mem_of_getElem? (i := 82) (by decide +kernel))) rfl
theorem w_1138 : Cond.code yX7_atom3 cX7_atom3 2 (some .int) ∈ aBIG := aBIG_of (aT5 (List.mem_of_getElem? (i := 83) (by decide +kernel))) rfl
theorem w_1139 : Cond.methodLink RX7 258 yX7_either4 ∈ aBIG := aBIG_of (aT5 (List.mem_of_getElem? (i := 84) (by decide +kernel))) rfl
theorem w_1141 : Cond.instanceMethod yX7_either4 ∈ aBIG := aBIG_of (aT5 (List.mem_of_getElem? (i := 86) (by decide +kernel))) rfl
theorem w_1142 : Cond.code yX7_either4 cX7_either4 3 (some .int) ∈ aBIG := aBIG_of (aT5 (List.mem_of_getElem? (i := 87) (by decide +kernel))) rfl
theorem w_1143 : Cond.methodLink RX7 255 yX7_both4 ∈ aBIG := aBIG_of (aT5 (List.mem_of_getElem? (i := 88) (by decide +kernel))) rfl
theorem w_1145 : Cond.instanceMethod yX7_both4 ∈ aBIG := aBIG_of (aT5 (List.mem_of_getElem? (i := 90) (by decide +kernel))) rfl
theorem w_1146 : Cond.code yX7_both4 cX7_both4 3 (some .int) ∈ aBIG := aBIG_of (aT5 (List.mem_of_getElem? (i := 91) (by decide +kernel))) rfl
theorem w_1147 : Cond.methodLink RX7 285 yX7_added2 ∈ aBIG := aBIG_of (aT5 (List.mem_of_getElem? (i := 92) (by decide +kernel))) rfl
theorem w_1149 : Cond.instanceMethod yX7_added2 ∈ aBIG := aBIG_of (aT5 (List.mem_of_getElem? (i := 94) (by decide +kernel))) rfl
theorem w_1150 : Cond.code yX7_added2 cX7_added2 4 (some .int) ∈ aBIG := aBIG_of (aT5 (List.mem_of_getElem? (i := 95) (by decide +kernel))) rfl
theorem w_1151 : Cond.methodLink RX7 282 yX7_term2 ∈ aBIG := aBIG_of (aT5 (List.mem_of_getElem? (i := 96) (by decide +kernel))) rfl
theorem w_1153 : Cond.instanceMethod yX7_term2 ∈ aBIG := aBIG_of (aT5 (List.mem_of_getElem? (i := 98) (by decide +kernel))) rfl
theorem w_1154 : Cond.code yX7_term2 cX7_term2 2 (some .int) ∈ aBIG := aBIG_of (aT5 (List.mem_of_getElem? (i := 99) (by decide +kernel))) rfl
theorem w_1155 : Cond.methodLink RX7 279 yX7_atom2 ∈ aBIG := aBIG_of (aT5 (List.mem_of_getElem? (i := 100) (by decide +kernel))) rfl
theorem w_1157 : Cond.instanceMethod yX7_atom2 ∈ aBIG := aBIG_of (aT5 (List.mem_of_getElem? (i := 102) (by decide +kernel))) rfl
theorem w_1158 : Cond.code yX7_atom2 cX7_atom2 2 (some .int) ∈ aBIG := aBIG_of (aT5 (List.mem_of_getElem? (i := 103) (by decide +kernel))) rfl
theorem w_1159 : Cond.methodLink RX7 276 yX7_either3 ∈ aBIG := aBIG_of (aT5 (List.mem_of_getElem? (i := 104) (by decide +kernel))) rfl
theorem w_1161 : Cond.instanceMethod yX7_either3 ∈ aBIG := aBIG_of (aT5 (List.mem_of_getElem? (i := 106) (by decide +kernel))) rfl
theorem w_1162 : Cond.code yX7_either3 cX7_either3 3 (some .int) ∈ aBIG := aBIG_of (aT5 (List.mem_of_getElem? (i := 107) (by decide +kernel))) rfl
theorem w_1163 : Cond.methodLink RX7 273 yX7_both3 ∈ aBIG := aBIG_of (aT5 (List.mem_of_getElem? (i := 108) (by decide +kernel))) rfl
theorem w_1165 : Cond.instanceMethod yX7_both3 ∈ aBIG := aBIG_of (aT5 (List.mem_of_getElem? (i := 110) (by decide +kernel))) rfl
theorem w_1166 : Cond.code yX7_both3 cX7_both3 3 (some .int) ∈ aBIG := aBIG_of (aT5 (List.mem_of_getElem? (i := 111) (by decide +kernel))) rfl
theorem w_1167 : Cond.methodLink RX7 303 yX7_added1 ∈ aBIG := aBIG_of (aT5 (List.mem_of_getElem? (i := 112) (by decide +kernel))) rfl
theorem w_1169 : Cond.instanceMethod yX7_added1 ∈ aBIG := aBIG_of (aT5 (List.mem_of_getElem? (i := 114) (by decide +kernel))) rfl
theorem w_1170 : Cond.code yX7_added1 cX7_added1 4 (some .int) ∈ aBIG := aBIG_of (aT5 (List.mem_of_getElem? (i := 115) (by decide +kernel))) rfl
theorem w_1171 : Cond.methodLink RX7 300 yX7_term1 ∈ aBIG := aBIG_of (aT5 (List.mem_of_getElem? (i := 116) (by decide +kernel))) rfl
theorem w_1173 : Cond.instanceMethod yX7_term1 ∈ aBIG := aBIG_of (aT5 (List.mem_of_getElem? (i := 118) (by decide +kernel))) rfl
theorem w_1174 : Cond.code yX7_term1 cX7_term1 2 (some .int) ∈ aBIG := aBIG_of (aT5 (List.mem_of_getElem? (i := 119) (by decide +kernel))) rfl
theorem w_1175 : Cond.methodLink RX7 297 yX7_atom1 ∈ aBIG := aBIG_of (aT5 (List.mem_of_getElem? (i := 120) (by decide +kernel))) rfl
theorem w_1177 : Cond.instanceMethod yX7_atom1 ∈ aBIG := aBIG_of (aT5 (List.mem_of_getElem? (i := 122) (by decide +kernel))) rfl
theorem w_1178 : Cond.code yX7_atom1 cX7_atom1 2 (some .int) ∈ aBIG := aBIG_of (aT5 (List.mem_of_getElem? (i := 123) (by decide +kernel))) rfl
theorem w_1179 : Cond.methodLink RX7 294 yX7_either2 ∈ aBIG := aBIG_of (aT5 (List.mem_of_getElem? (i := 124) (by decide +kernel))) rfl
theorem w_1181 : Cond.instanceMethod yX7_either2 ∈ aBIG := aBIG_of (aT5 (List.mem_of_getElem? (i := 126) (by decide +kernel))) rfl
theorem w_1182 : Cond.code yX7_either2 cX7_either2 3 (some .int) ∈ aBIG := aBIG_of (aT5 (List.mem_of_getElem? (i := 127) (by decide +kernel))) rfl
theorem w_1183 : Cond.methodLink RX7 291 yX7_both2 ∈ aBIG := aBIG_of (aT5 (List.mem_of_getElem? (i := 128) (by decide +kernel))) rfl
theorem w_1185 : Cond.instanceMethod yX7_both2 ∈ aBIG := aBIG_of (aT5 (List.mem_of_getElem? (i := 130) (by decide +kernel))) rfl
theorem w_1186 : Cond.code yX7_both2 cX7_both2 3 (some .int) ∈ aBIG := aBIG_of (aT5 (List.mem_of_getElem? (i := 131) (by decide +kernel))) rfl
theorem w_1187 : Cond.methodLink RX7 321 yX7_added0 ∈ aBIG := aBIG_of (aT5 (List.mem_of_getElem? (i := 132) (by decide +kernel))) rfl
theorem w_1189 : Cond.instanceMethod yX7_added0 ∈ aBIG := aBIG_of (aT5 (List.mem_of_getElem? (i := 134) (by decide +kernel))) rfl
theorem w_1190 : Cond.code yX7_added0 cX7_added0 4 (some .int) ∈ aBIG := aBIG_of (aT5 (List.mem_of_getElem? (i := 135) (by decide +kernel))) rfl
theorem w_1191 : Cond.methodLink RX7 318 yX7_term0 ∈ aBIG := aBIG_of (aT5 (List.mem_of_getElem? (i := 136) (by decide +kernel))) rfl
theorem w_1193 : Cond.instanceMethod yX7_term0 ∈ aBIG := aBIG_of (aT5 (List.mem_of_getElem? (i := 138) (by decide +kernel))) rfl
theorem w_1194 : Cond.code yX7_term0 cX7_term0 2 (some .int) ∈ aBIG := aBIG_of (aT5 (List.mem_of_getElem? (i := 139) (by decide +kernel))) rfl
theorem w_1195 : Cond.methodLink RX7 315 yX7_atom0 ∈ aBIG := aBIG_of (aT5 (List.mem_of_getElem? (i := 140) (by decide +kernel))) rfl
theorem w_1197 : Cond.instanceMethod yX7_atom0 ∈ aBIG := aBIG_of (aT5 (List.mem_of_getElem? (i := 142) (by decide +kernel))) rfl
theorem w_1198 : Cond.code yX7_atom0 cX7_atom0 2 (some .int) ∈ aBIG := aBIG_of (aT5 (List.mem_of_getElem? (i := 143) (by decide +kernel))) rfl
theorem w_1199 : Cond.methodLink RX7 312 yX7_either1 ∈ aBIG := aBIG_of (aT5 (List.mem_of_getElem? (i := 144) (by decide +kernel))) rfl
theorem w_1201 : Cond.instanceMethod yX7_either1 ∈ aBIG := aBIG_of (aT5 (List.mem_of_getElem? (i := 146) (by decide +kernel))) rfl
theorem w_1202 : Cond.code yX7_either1 cX7_either1 3 (some .int) ∈ aBIG := aBIG_of (aT5 (List.mem_of_getElem? (i := 147) (by decide +kernel))) rfl
theorem w_1203 : Cond.methodLink RX7 309 yX7_both1 ∈ aBIG := aBIG_of (aT5 (List.mem_of_getElem? (i := 148) (by decide +kernel))) rfl
theorem w_1205 : Cond.instanceMethod yX7_both1 ∈ aBIG := aBIG_of (aT5 (List.mem_of_getElem? (i := 150) (by decide +kernel))) rfl
theorem w_1206 : Cond.code yX7_both1 cX7_both1 3 (some .int) ∈ aBIG := aBIG_of (aT5 (List.mem_of_getElem? (i := 151) (by decide +kernel))) rfl
theorem w_1207 : Cond.methodLink RX7 340 yX7_within ∈ aBIG := aBIG_of (aT5 (List.mem_of_getElem? (i := 152) (by decide +kernel))) rfl
theorem w_1208 : Cond.static yX7_within ∈ aBIG := aBIG_of (aT5 (List.mem_of_getElem? (i := 153) (by decide +kernel))) rfl
theorem w_1209 : Cond.code yX7_within cX7_within 3 (some .int) ∈ aBIG := aBIG_of (aT5 (List.mem_of_getElem? (i := 154) (by decide +kernel))) rfl
theorem w_1210 : Cond.methodLink RX7 131 yX7_managedMany ∈ aBIG := aBIG_of (aT5 (List.mem_of_getElem? (i := 155) (by decide +kernel))) rfl
theorem w_1212 : Cond.instanceMethod yX7_managedMany ∈ aBIG := aBIG_of (aT5 (List.mem_of_getElem? (i := 157) (by decide +kernel))) rfl
theorem w_1213 : Cond.code yX7_managedMany cX7_managedMany 4 (some .int) ∈ aBIG := aBIG_of (aT5 (List.mem_of_getElem? (i := 158) (by decide +kernel))) rfl
theorem w_1214 : Cond.methodLink RX7 107 yX7_lays ∈ aBIG := aBIG_of (aT5 (List.mem_of_getElem? (i := 159) (by decide +kernel))) rfl
theorem w_1216 : Cond.instanceMethod yX7_lays ∈ aBIG := aBIG_of (aT5 (List.mem_of_getElem? (i := 161) (by decide +kernel))) rfl
theorem w_1217 : Cond.code yX7_lays cX7_lays 4 none ∈ aBIG := aBIG_of (aT5 (List.mem_of_getElem? (i := 162) (by decide +kernel))) rfl
theorem w_1218 : Cond.methodLink RL 22 yX7_learner ∈ aBIG := aBIG_of (aT5 (List.mem_of_getElem? (i := 163) (by decide +kernel))) rfl
theorem w_1219 : Cond.instanceMethod yX7_learner ∈ aBIG := aBIG_of (aT5 (List.mem_of_getElem? (i := 164) (by decide +kernel))) rfl
theorem w_1220 : Cond.selects RX7 yX7_learner yX7_learner ∈ aBIG := aBIG_of (aT5 (List.mem_of_getElem? (i := 165) (by decide +kernel))) rfl
theorem w_1221 : Cond.code yX7_learner cX7_learner 4 (some .int) ∈ aBIG := aBIG_of (aT5 (List.mem_of_getElem? (i := 166) (by decide +kernel))) rfl
theorem w_1222 : Cond.constantLong RX7 120 (5) ∈ aBIG := aBIG_of (aT5 (List.mem_of_getElem? (i := 167) (by decide +kernel))) rfl
theorem w_1223 : Cond.constantLong RX7 122 (9) ∈ aBIG := aBIG_of (aT5 (List.mem_of_getElem? (i := 168) (by decide +kernel))) rfl
theorem w_1224 : Cond.methodLink RL 26 yX7_told ∈ aBIG := aBIG_of (aT5 (List.mem_of_getElem? (i := 169) (by decide +kernel))) rfl
theorem w_1225 : Cond.methodLink RL 35 yX7_feed ∈ aBIG := aBIG_of (aT5 (List.mem_of_getElem? (i := 170) (by decide +kernel))) rfl
theorem w_1226 : Cond.instanceMethod yX7_feed ∈ aBIG := aBIG_of (aT5 (List.mem_of_getElem? (i := 171) (by decide +kernel))) rfl
theorem w_1227 : Cond.selects RX7 yX7_feed yX7_feed ∈ aBIG := aBIG_of (aT5 (List.mem_of_getElem? (i := 172) (by decide +kernel))) rfl
theorem w_1228 : Cond.code yX7_feed cX7_feed 2 (some .int) ∈ aBIG := aBIG_of (aT5 (List.mem_of_getElem? (i := 173) (by decide +kernel))) rfl
theorem w_1229 : Cond.constantLong RX7 134 (255) ∈ aBIG := aBIG_of (aT5 (List.mem_of_getElem? (i := 174) (by decide +kernel))) rfl
theorem w_1230 : Cond.methodLink RL 40 yX7_text ∈ aBIG := aBIG_of (aT5 (List.mem_of_getElem? (i := 175) (by decide +kernel))) rfl
theorem w_1231 : Cond.instanceMethod yX7_text ∈ aBIG := aBIG_of (aT5 (List.mem_of_getElem? (i := 176) (by decide +kernel))) rfl
theorem w_1232 : Cond.selects RX7 yX7_text yX7_text ∈ aBIG := aBIG_of (aT5 (List.mem_of_getElem? (i := 177) (by decide +kernel))) rfl
theorem w_1233 : Cond.code yX7_text cX7_text 2 (some .int) ∈ aBIG := aBIG_of (aT5 (List.mem_of_getElem? (i := 178) (by decide +kernel))) rfl
theorem w_1234 : Cond.methodLink RL 44 yX7_force ∈ aBIG := aBIG_of (aT5 (List.mem_of_getElem? (i := 179) (by decide +kernel))) rfl
theorem w_1235 : Cond.instanceMethod yX7_force ∈ aBIG := aBIG_of (aT5 (List.mem_of_getElem? (i := 180) (by decide +kernel))) rfl
theorem w_1236 : Cond.selects RX7 yX7_force yX7_force ∈ aBIG := aBIG_of (aT5 (List.mem_of_getElem? (i := 181) (by decide +kernel))) rfl
theorem w_1237 : Cond.code yX7_force cX7_force 3 (some .int) ∈ aBIG := aBIG_of (aT5 (List.mem_of_getElem? (i := 182) (by decide +kernel))) rfl
theorem w_1238 : Cond.methodLink RL 30 yX7_asks ∈ aBIG := aBIG_of (aT5 (List.mem_of_getElem? (i := 183) (by decide +kernel))) rfl
theorem w_1239 : Cond.instanceMethod yX7_asks ∈ aBIG := aBIG_of (aT5 (List.mem_of_getElem? (i := 184) (by decide +kernel))) rfl
theorem w_1240 : Cond.selects RX7 yX7_asks yX7_asks ∈ aBIG := aBIG_of (aT5 (List.mem_of_getElem? (i := 185) (by decide +kernel))) rfl
theorem w_1241 : Cond.code yX7_asks cX7_asks 4 (some .int) ∈ aBIG := aBIG_of (aT5 (List.mem_of_getElem? (i := 186) (by decide +kernel))) rfl
theorem w_1242 : Cond.methodLink RX7 354 yX7_learnsOf ∈ aBIG := aBIG_of (aT5 (List.mem_of_getElem? (i := 187) (by decide +kernel))) rfl
theorem w_1244 : Cond.instanceMethod yX7_learnsOf ∈ aBIG := aBIG_of (aT5 (List.mem_of_getElem? (i := 189) (by decide +kernel))) rfl
theorem w_1245 : Cond.code yX7_learnsOf cX7_learnsOf 9 (some .int) ∈ aBIG := aBIG_of (aT5 (List.mem_of_getElem? (i := 190) (by decide +kernel))) rfl
theorem w_1246 : Cond.methodLink RX7 357 yX7_forgetsOf ∈ aBIG := aBIG_of (aT5 (List.mem_of_getElem? (i := 191) (by decide +kernel))) rfl
theorem w_1248 : Cond.instanceMethod yX7_forgetsOf ∈ aBIG := aBIG_of (aT5 (List.mem_of_getElem? (i := 193) (by decide +kernel))) rfl
theorem w_1249 : Cond.code yX7_forgetsOf cX7_forgetsOf 5 (some .int) ∈ aBIG := aBIG_of (aT5 (List.mem_of_getElem? (i := 194) (by decide +kernel))) rfl
theorem w_1250 : Cond.methodLink RL 48 yX7_drive ∈ aBIG := aBIG_of (aT5 (List.mem_of_getElem? (i := 195) (by decide +kernel))) rfl
theorem w_1251 : Cond.instanceMethod yX7_drive ∈ aBIG := aBIG_of (aT5 (List.mem_of_getElem? (i := 196) (by decide +kernel))) rfl
theorem w_1252 : Cond.selects RX7 yX7_drive yX7_drive ∈ aBIG := aBIG_of (aT5 (List.mem_of_getElem? (i := 197) (by decide +kernel))) rfl
theorem w_1253 : Cond.code yX7_drive cX7_drive 4 (some .int) ∈ aBIG := aBIG_of (aT5 (List.mem_of_getElem? (i := 198) (by decide +kernel))) rfl
theorem w_1254 : Cond.constantLong RX7 360 (2) ∈ aBIG := aBIG_of (aT5 (List.mem_of_getElem? (i := 199) (by decide +kernel))) rfl
theorem w_1255 : Cond.methodLink RX7 362 yX7_drives ∈ aBIG := aBIG_of (aT5 (List.mem_of_getElem? (i := 200) (by decide +kernel))) rfl
theorem w_1257 : Cond.instanceMethod yX7_drives ∈ aBIG := aBIG_of (aT5 (List.mem_of_getElem? (i := 202) (by decide +kernel))) rfl
theorem w_1258 : Cond.code yX7_drives cX7_drives 6 none ∈ aBIG := aBIG_of (aT5 (List.mem_of_getElem? (i := 203) (by decide +kernel))) rfl
theorem w_1259 : Cond.methodLink RL 52 yX7_night ∈ aBIG := aBIG_of (aT5 (List.mem_of_getElem? (i := 204) (by decide +kernel))) rfl
theorem w_1260 : Cond.instanceMethod yX7_night ∈ aBIG := aBIG_of (aT5 (List.mem_of_getElem? (i := 205) (by decide +kernel))) rfl
theorem w_1261 : Cond.selects RX7 yX7_night yX7_night ∈ aBIG := aBIG_of (aT5 (List.mem_of_getElem? (i := 206) (by decide +kernel))) rfl
theorem w_1262 : Cond.code yX7_night cX7_night 2 (some .int) ∈ aBIG := aBIG_of (aT5 (List.mem_of_getElem? (i := 207) (by decide +kernel))) rfl
theorem w_1263 : Cond.methodLink RX7 365 yX7_sleeps ∈ aBIG := aBIG_of (aT5 (List.mem_of_getElem? (i := 208) (by decide +kernel))) rfl
theorem w_1265 : Cond.instanceMethod yX7_sleeps ∈ aBIG := aBIG_of (aT5 (List.mem_of_getElem? (i := 210) (by decide +kernel))) rfl
theorem w_1266 : Cond.code yX7_sleeps cX7_sleeps 3 none ∈ aBIG := aBIG_of (aT5 (List.mem_of_getElem? (i := 211) (by decide +kernel))) rfl
theorem w_1267 : Cond.methodLink RX7 369 yX7_readyMany ∈ aBIG := aBIG_of (aT5 (List.mem_of_getElem? (i := 212) (by decide +kernel))) rfl
theorem w_1269 : Cond.instanceMethod yX7_readyMany ∈ aBIG := aBIG_of (aT5 (List.mem_of_getElem? (i := 214) (by decide +kernel))) rfl
theorem w_1270 : Cond.code yX7_readyMany cX7_readyMany 3 (some .int) ∈ aBIG := aBIG_of (aT5 (List.mem_of_getElem? (i := 215) (by decide +kernel))) rfl
theorem w_1271 : Cond.methodLink RL 56 yX7_best ∈ aBIG := aBIG_of (aT5 (List.mem_of_getElem? (i := 216) (by decide +kernel))) rfl
theorem w_1272 : Cond.instanceMethod yX7_best ∈ aBIG := aBIG_of (aT5 (List.mem_of_getElem? (i := 217) (by decide +kernel))) rfl
theorem w_1273 : Cond.selects RX7 yX7_best yX7_best ∈ aBIG := aBIG_of (aT5 (List.mem_of_getElem? (i := 218) (by decide +kernel))) rfl
theorem w_1274 : Cond.code yX7_best cX7_best 7 (some .int) ∈ aBIG := aBIG_of (aT5 (List.mem_of_getElem? (i := 219) (by decide +kernel))) rfl
theorem w_1275 : Cond.methodLink RX7 375 yX7_laysAside ∈ aBIG := aBIG_of (aT5 (List.mem_of_getElem? (i := 220) (by decide +kernel))) rfl
theorem w_1277 : Cond.instanceMethod yX7_laysAside ∈ aBIG := aBIG_of (aT5 (List.mem_of_getElem? (i := 222) (by decide +kernel))) rfl
theorem w_1278 : Cond.code yX7_laysAside cX7_laysAside 3 none ∈ aBIG := aBIG_of (aT5 (List.mem_of_getElem? (i := 223) (by decide +kernel))) rfl
theorem w_1279 : Cond.methodLink RX7 378 yX7_skillsOf ∈ aBIG := aBIG_of (aT5 (List.mem_of_getElem? (i := 224) (by decide +kernel))) rfl
theorem w_1281 : Cond.instanceMethod yX7_skillsOf ∈ aBIG := aBIG_of (aT5 (List.mem_of_getElem? (i := 226) (by decide +kernel))) rfl
theorem w_1282 : Cond.code yX7_skillsOf cX7_skillsOf 4 (some .int) ∈ aBIG := aBIG_of (aT5 (List.mem_of_getElem? (i := 227) (by decide +kernel))) rfl
theorem w_1283 : Cond.methodLink RX7 381 yX7_laysBack ∈ aBIG := aBIG_of (aT5 (List.mem_of_getElem? (i := 228) (by decide +kernel))) rfl
theorem w_1285 : Cond.instanceMethod yX7_laysBack ∈ aBIG := aBIG_of (aT5 (List.mem_of_getElem? (i := 230) (by decide +kernel))) rfl
theorem w_1286 : Cond.code yX7_laysBack cX7_laysBack 3 none ∈ aBIG := aBIG_of (aT5 (List.mem_of_getElem? (i := 231) (by decide +kernel))) rfl
theorem w_1287 : Cond.methodLink RL 61 yX7_hours ∈ aBIG := aBIG_of (aT5 (List.mem_of_getElem? (i := 232) (by decide +kernel))) rfl
theorem w_1288 : Cond.instanceMethod yX7_hours ∈ aBIG := aBIG_of (aT5 (List.mem_of_getElem? (i := 233) (by decide +kernel))) rfl
theorem w_1289 : Cond.selects RX7 yX7_hours yX7_hours ∈ aBIG := aBIG_of (aT5 (List.mem_of_getElem? (i := 234) (by decide +kernel))) rfl
theorem w_1290 : Cond.code yX7_hours cX7_hours 13 (some .int) ∈ aBIG := aBIG_of (aT5 (List.mem_of_getElem? (i := 235) (by decide +kernel))) rfl
theorem w_1291 : Cond.constantLong RX7 384 (3) ∈ aBIG := aBIG_of (aT5 (List.mem_of_getElem? (i := 236) (by decide +kernel))) rfl
theorem w_1292 : Cond.methodLink RL 65 yX7_takes ∈ aBIG := aBIG_of (aT5 (List.mem_of_getElem? (i := 237) (by decide +kernel))) rfl
theorem w_1293 : Cond.instanceMethod yX7_takes ∈ aBIG := aBIG_of (aT5 (List.mem_of_getElem? (i := 238) (by decide +kernel))) rfl
theorem w_1294 : Cond.selects RX7 yX7_takes yX7_takes ∈ aBIG := aBIG_of (aT5 (List.mem_of_getElem? (i := 239) (by decide +kernel))) rfl
theorem w_1295 : Cond.code yX7_takes cX7_takes 7 (some .int) ∈ aBIG := aBIG_of (aT6 (List.mem_of_getElem? (i := 0) (by decide +kernel))) rfl
theorem w_1296 : Cond.methodLink RX7 386 yX7_weakest ∈ aBIG := aBIG_of (aT6 (List.mem_of_getElem? (i := 1) (by decide +kernel))) rfl
theorem w_1298 : Cond.instanceMethod yX7_weakest ∈ aBIG := aBIG_of (aT6 (List.mem_of_getElem? (i := 3) (by decide +kernel))) rfl
theorem w_1299 : Cond.code yX7_weakest cX7_weakest 4 (some .int) ∈ aBIG := aBIG_of (aT6 (List.mem_of_getElem? (i := 4) (by decide +kernel))) rfl
theorem w_1300 : Cond.methodLink RL 69 yX7_late ∈ aBIG := aBIG_of (aT6 (List.mem_of_getElem? (i := 5) (by decide +kernel))) rfl
theorem w_1301 : Cond.instanceMethod yX7_late ∈ aBIG := aBIG_of (aT6 (List.mem_of_getElem? (i := 6) (by decide +kernel))) rfl
theorem w_1302 : Cond.selects RX7 yX7_late yX7_late ∈ aBIG := aBIG_of (aT6 (List.mem_of_getElem? (i := 7) (by decide +kernel))) rfl
theorem w_1303 : Cond.code yX7_late cX7_late 4 (some .int) ∈ aBIG := aBIG_of (aT6 (List.mem_of_getElem? (i := 8) (by decide +kernel))) rfl
theorem w_1304 : Cond.methodLink RL 73 yX7_gap ∈ aBIG := aBIG_of (aT6 (List.mem_of_getElem? (i := 9) (by decide +kernel))) rfl
theorem w_1305 : Cond.instanceMethod yX7_gap ∈ aBIG := aBIG_of (aT6 (List.mem_of_getElem? (i := 10) (by decide +kernel))) rfl
theorem w_1306 : Cond.selects RX7 yX7_gap yX7_gap ∈ aBIG := aBIG_of (aT6 (List.mem_of_getElem? (i := 11) (by decide +kernel))) rfl
theorem w_1307 : Cond.code yX7_gap cX7_gap 5 (some .int) ∈ aBIG := aBIG_of (aT6 (List.mem_of_getElem? (i := 12) (by decide +kernel))) rfl
theorem w_1308 : Cond.methodLink RL 77 yX7_faded ∈ aBIG := aBIG_of (aT6 (List.mem_of_getElem? (i := 13) (by decide +kernel))) rfl
theorem w_1309 : Cond.instanceMethod yX7_faded ∈ aBIG := aBIG_of (aT6 (List.mem_of_getElem? (i := 14) (by decide +kernel))) rfl
theorem w_1310 : Cond.selects RX7 yX7_faded yX7_faded ∈ aBIG := aBIG_of (aT6 (List.mem_of_getElem? (i := 15) (by decide +kernel))) rfl
theorem w_1311 : Cond.code yX7_faded cX7_faded 4 (some .int) ∈ aBIG := aBIG_of (aT6 (List.mem_of_getElem? (i := 16) (by decide +kernel))) rfl
theorem w_1312 : Cond.constantLong RX7 389 (40) ∈ aBIG := aBIG_of (aT6 (List.mem_of_getElem? (i := 17) (by decide +kernel))) rfl
theorem w_1313 : Cond.methodLink RL 82 yX7_test ∈ aBIG := aBIG_of (aT6 (List.mem_of_getElem? (i := 18) (by decide +kernel))) rfl
theorem w_1314 : Cond.instanceMethod yX7_test ∈ aBIG := aBIG_of (aT6 (List.mem_of_getElem? (i := 19) (by decide +kernel))) rfl
theorem w_1315 : Cond.selects RX7 yX7_test yX7_test ∈ aBIG := aBIG_of (aT6 (List.mem_of_getElem? (i := 20) (by decide +kernel))) rfl
theorem w_1316 : Cond.code yX7_test cX7_test 9 (some .long) ∈ aBIG := aBIG_of (aT6 (List.mem_of_getElem? (i := 21) (by decide +kernel))) rfl
theorem w_1317 : Cond.constantLong RX7 391 (-4611686018427387904) ∈ aBIG := aBIG_of (aT6 (List.mem_of_getElem? (i := 22) (by decide +kernel))) rfl
theorem w_1318 : Cond.constantLong RX7 393 (100) ∈ aBIG := aBIG_of (aT6 (List.mem_of_getElem? (i := 23) (by decide +kernel))) rfl
theorem w_1319 : Cond.methodLink RX7 395 yX7_lowest ∈ aBIG := aBIG_of (aT6 (List.mem_of_getElem? (i := 24) (by decide +kernel))) rfl
theorem w_1320 : Cond.static yX7_lowest ∈ aBIG := aBIG_of (aT6 (List.mem_of_getElem? (i := 25) (by decide +kernel))) rfl
theorem w_1321 : Cond.code yX7_lowest cX7_lowest 11 (some .long) ∈ aBIG := aBIG_of (aT6 (List.mem_of_getElem? (i := 26) (by decide +kernel))) rfl
theorem w_1322 : Cond.methodLink RL 86 yX7_tells ∈ aBIG := aBIG_of (aT6 (List.mem_of_getElem? (i := 27) (by decide +kernel))) rfl
theorem w_1323 : Cond.instanceMethod yX7_tells ∈ aBIG := aBIG_of (aT6 (List.mem_of_getElem? (i := 28) (by decide +kernel))) rfl
theorem w_1324 : Cond.selects RX7 yX7_tells yX7_tells ∈ aBIG := aBIG_of (aT6 (List.mem_of_getElem? (i := 29) (by decide +kernel))) rfl
theorem w_1325 : Cond.code yX7_tells cX7_tells 15 (some .int) ∈ aBIG := aBIG_of (aT6 (List.mem_of_getElem? (i := 30) (by decide +kernel))) rfl
theorem w_1326 : Cond.methodLink RX7 404 yX7_isSheet ∈ aBIG := aBIG_of (aT6 (List.mem_of_getElem? (i := 31) (by decide +kernel))) rfl
theorem w_1327 : Cond.static yX7_isSheet ∈ aBIG := aBIG_of (aT6 (List.mem_of_getElem? (i := 32) (by decide +kernel))) rfl
theorem w_1328 : Cond.code yX7_isSheet cX7_isSheet 1 (some .boolean) ∈ aBIG := aBIG_of (aT6 (List.mem_of_getElem? (i := 33) (by decide +kernel))) rfl
theorem w_1329 : Cond.methodLink RX7 407 yX7_isStreetHelp ∈ aBIG := aBIG_of (aT6 (List.mem_of_getElem? (i := 34) (by decide +kernel))) rfl
theorem w_1330 : Cond.static yX7_isStreetHelp ∈ aBIG := aBIG_of (aT6 (List.mem_of_getElem? (i := 35) (by decide +kernel))) rfl
theorem w_1331 : Cond.code yX7_isStreetHelp cX7_isStreetHelp 1 (some .boolean) ∈ aBIG := aBIG_of (aT6 (List.mem_of_getElem? (i := 36) (by decide +kernel))) rfl
theorem w_1332 : Cond.constantLong RX7 399 (72) ∈ aBIG := aBIG_of (aT6 (List.mem_of_getElem? (i := 37) (by decide +kernel))) rfl
theorem w_1333 : Cond.constantLong RX7 410 (8) ∈ aBIG := aBIG_of (aT6 (List.mem_of_getElem? (i := 38) (by decide +kernel))) rfl
theorem w_1334 : Cond.methodLink RX7 401 yX7_firstOther ∈ aBIG := aBIG_of (aT6 (List.mem_of_getElem? (i := 39) (by decide +kernel))) rfl
theorem w_1336 : Cond.instanceMethod yX7_firstOther ∈ aBIG := aBIG_of (aT6 (List.mem_of_getElem? (i := 41) (by decide +kernel))) rfl
theorem w_1337 : Cond.code yX7_firstOther cX7_firstOther 7 (some .int) ∈ aBIG := aBIG_of (aT6 (List.mem_of_getElem? (i := 42) (by decide +kernel))) rfl
theorem w_1338 : Cond.methodLink RX7 412 yX7_helpsBy ∈ aBIG := aBIG_of (aT6 (List.mem_of_getElem? (i := 43) (by decide +kernel))) rfl
theorem w_1340 : Cond.instanceMethod yX7_helpsBy ∈ aBIG := aBIG_of (aT6 (List.mem_of_getElem? (i := 45) (by decide +kernel))) rfl
theorem w_1341 : Cond.code yX7_helpsBy cX7_helpsBy 6 (some .int) ∈ aBIG := aBIG_of (aT6 (List.mem_of_getElem? (i := 46) (by decide +kernel))) rfl
theorem w_1342 : Cond.methodLink RL 90 yX7_film ∈ aBIG := aBIG_of (aT6 (List.mem_of_getElem? (i := 47) (by decide +kernel))) rfl
theorem w_1343 : Cond.instanceMethod yX7_film ∈ aBIG := aBIG_of (aT6 (List.mem_of_getElem? (i := 48) (by decide +kernel))) rfl
theorem w_1344 : Cond.selects RX7 yX7_film yX7_film ∈ aBIG := aBIG_of (aT6 (List.mem_of_getElem? (i := 49) (by decide +kernel))) rfl
theorem w_1345 : Cond.code yX7_film cX7_film 6 (some .int) ∈ aBIG := aBIG_of (aT6 (List.mem_of_getElem? (i := 50) (by decide +kernel))) rfl
theorem w_1346 : Cond.methodLink RX7 415 yX7_sheet ∈ aBIG := aBIG_of (aT6 (List.mem_of_getElem? (i := 51) (by decide +kernel))) rfl
theorem w_1347 : Cond.instanceMethod yX7_sheet ∈ aBIG := aBIG_of (aT6 (List.mem_of_getElem? (i := 52) (by decide +kernel))) rfl
theorem w_1348 : Cond.selects RX7 yX7_sheet yX7_sheet ∈ aBIG := aBIG_of (aT6 (List.mem_of_getElem? (i := 53) (by decide +kernel))) rfl
theorem w_1349 : Cond.code yX7_sheet cX7_sheet 5 (some .int) ∈ aBIG := aBIG_of (aT6 (List.mem_of_getElem? (i := 54) (by decide +kernel))) rfl
theorem w_1350 : Cond.constantLong RX7 430 (-1) ∈ aBIG := aBIG_of (aT6 (List.mem_of_getElem? (i := 55) (by decide +kernel))) rfl
theorem w_1351 : Cond.methodLink RL 94 yX7_drawn ∈ aBIG := aBIG_of (aT6 (List.mem_of_getElem? (i := 56) (by decide +kernel))) rfl
theorem w_1352 : Cond.instanceMethod yX7_drawn ∈ aBIG := aBIG_of (aT6 (List.mem_of_getElem? (i := 57) (by decide +kernel))) rfl
theorem w_1353 : Cond.selects RX7 yX7_drawn yX7_drawn ∈ aBIG := aBIG_of (aT6 (List.mem_of_getElem? (i := 58) (by decide +kernel))) rfl
theorem w_1354 : Cond.code yX7_drawn cX7_drawn 3 (some .int) ∈ aBIG := aBIG_of (aT6 (List.mem_of_getElem? (i := 59) (by decide +kernel))) rfl
theorem w_1355 : Cond.methodLink RX7 419 yX7_passes ∈ aBIG := aBIG_of (aT6 (List.mem_of_getElem? (i := 60) (by decide +kernel))) rfl
theorem w_1357 : Cond.instanceMethod yX7_passes ∈ aBIG := aBIG_of (aT6 (List.mem_of_getElem? (i := 62) (by decide +kernel))) rfl
theorem w_1358 : Cond.code yX7_passes cX7_passes 6 (some .int) ∈ aBIG := aBIG_of (aT6 (List.mem_of_getElem? (i := 63) (by decide +kernel))) rfl
theorem w_1359 : Cond.constant RX7 418 (1103515245) ∈ aBIG := aBIG_of (aT6 (List.mem_of_getElem? (i := 64) (by decide +kernel))) rfl
theorem w_1360 : Cond.methodLink RL 99 yX7_chance ∈ aBIG := aBIG_of (aT6 (List.mem_of_getElem? (i := 65) (by decide +kernel))) rfl
theorem w_1361 : Cond.instanceMethod yX7_chance ∈ aBIG := aBIG_of (aT6 (List.mem_of_getElem? (i := 66) (by decide +kernel))) rfl
theorem w_1362 : Cond.selects RX7 yX7_chance yX7_chance ∈ aBIG := aBIG_of (aT6 (List.mem_of_getElem? (i := 67) (by decide +kernel))) rfl
theorem w_1363 : Cond.code yX7_chance cX7_chance 8 (some .long) ∈ aBIG := aBIG_of (aT6 (List.mem_of_getElem? (i := 68) (by decide +kernel))) rfl
theorem w_1364 : Cond.methodLink RL 103 yX7_image ∈ aBIG := aBIG_of (aT6 (List.mem_of_getElem? (i := 69) (by decide +kernel))) rfl
theorem w_1365 : Cond.instanceMethod yX7_image ∈ aBIG := aBIG_of (aT6 (List.mem_of_getElem? (i := 70) (by decide +kernel))) rfl
theorem w_1366 : Cond.selects RX7 yX7_image yX7_image ∈ aBIG := aBIG_of (aT6 (List.mem_of_getElem? (i := 71) (by decide +kernel))) rfl
theorem w_1367 : Cond.code yX7_image cX7_image 2 (some .int) ∈ aBIG := aBIG_of (aT6 (List.mem_of_getElem? (i := 72) (by decide +kernel))) rfl
theorem w_1368 : Cond.methodLink RL 107 yX7_back ∈ aBIG := aBIG_of (aT6 (List.mem_of_getElem? (i := 73) (by decide +kernel))) rfl
theorem w_1369 : Cond.instanceMethod yX7_back ∈ aBIG := aBIG_of (aT6 (List.mem_of_getElem? (i := 74) (by decide +kernel))) rfl
theorem w_1370 : Cond.selects RX7 yX7_back yX7_back ∈ aBIG := aBIG_of (aT6 (List.mem_of_getElem? (i := 75) (by decide +kernel))) rfl
theorem w_1371 : Cond.code yX7_back cX7_back 2 (some .int) ∈ aBIG := aBIG_of (aT6 (List.mem_of_getElem? (i := 76) (by decide +kernel))) rfl
theorem w_1372 : Cond.methodLink RL 111 yX7_count ∈ aBIG := aBIG_of (aT6 (List.mem_of_getElem? (i := 77) (by decide +kernel))) rfl
theorem w_1373 : Cond.instanceMethod yX7_count ∈ aBIG := aBIG_of (aT6 (List.mem_of_getElem? (i := 78) (by decide +kernel))) rfl
theorem w_1374 : Cond.selects RX7 yX7_count yX7_count ∈ aBIG := aBIG_of (aT6 (List.mem_of_getElem? (i := 79) (by decide +kernel))) rfl
theorem w_1375 : Cond.code yX7_count cX7_count 4 (some .int) ∈ aBIG := aBIG_of (aT6 (List.mem_of_getElem? (i := 80) (by decide +kernel))) rfl
theorem w_1376 : Cond.constantLong RX7 428 (6) ∈ aBIG := aBIG_of (aT6 (List.mem_of_getElem? (i := 81) (by decide +kernel))) rfl
theorem w_1377 : Cond.methodLink RL 115 yX7_sheet ∈ aBIG := aBIG_of (aT6 (List.mem_of_getElem? (i := 82) (by decide +kernel))) rfl
theorem w_1378 : Cond.methodLink RL 119 yX7_cell ∈ aBIG := aBIG_of (aT6 (List.mem_of_getElem? (i := 83) (by decide +kernel))) rfl
theorem w_1379 : Cond.instanceMethod yX7_cell ∈ aBIG := aBIG_of (aT6 (List.mem_of_getElem? (i := 84) (by decide +kernel))) rfl
theorem w_1380 : Cond.selects RX7 yX7_cell yX7_cell ∈ aBIG := aBIG_of (aT6 (List.mem_of_getElem? (i := 85) (by decide +kernel))) rfl
theorem w_1381 : Cond.code yX7_cell cX7_cell 4 (some .int) ∈ aBIG := aBIG_of (aT6 (List.mem_of_getElem? (i := 86) (by decide +kernel))) rfl
theorem w_1382 : Cond.methodLink RL 124 yX7_copy ∈ aBIG := aBIG_of (aT6 (List.mem_of_getElem? (i := 87) (by decide +kernel))) rfl
theorem w_1383 : Cond.instanceMethod yX7_copy ∈ aBIG := aBIG_of (aT6 (List.mem_of_getElem? (i := 88) (by decide +kernel))) rfl
theorem w_1384 : Cond.selects RX7 yX7_copy yX7_copy ∈ aBIG := aBIG_of (aT6 (List.mem_of_getElem? (i := 89) (by decide +kernel))) rfl
theorem w_1385 : Cond.code yX7_copy cX7_copy 9 (some .int) ∈ aBIG := aBIG_of (aT6 (List.mem_of_getElem? (i := 90) (by decide +kernel))) rfl
theorem w_1386 : Cond.methodLink RL 128 yX7_learners ∈ aBIG := aBIG_of (aT6 (List.mem_of_getElem? (i := 91) (by decide +kernel))) rfl
theorem w_1387 : Cond.instanceMethod yX7_learners ∈ aBIG := aBIG_of (aT6 (List.mem_of_getElem? (i := 92) (by decide +kernel))) rfl
theorem w_1388 : Cond.selects RX7 yX7_learners yX7_learners ∈ aBIG := aBIG_of (aT6 (List.mem_of_getElem? (i := 93) (by decide +kernel))) rfl
theorem w_1389 : Cond.code yX7_learners cX7_learners 8 (some .int) ∈ aBIG := aBIG_of (aT6 (List.mem_of_getElem? (i := 94) (by decide +kernel))) rfl
theorem w_1390 : Cond.methodLink RX7 432 yX7_learner ∈ aBIG := aBIG_of (aT6 (List.mem_of_getElem? (i := 95) (by decide +kernel))) rfl
theorem w_1391 : Cond.methodLink RL 132 yX7_taken ∈ aBIG := aBIG_of (aT6 (List.mem_of_getElem? (i := 96) (by decide +kernel))) rfl
theorem w_1392 : Cond.instanceMethod yX7_taken ∈ aBIG := aBIG_of (aT6 (List.mem_of_getElem? (i := 97) (by decide +kernel))) rfl
theorem w_1393 : Cond.selects RX7 yX7_taken yX7_taken ∈ aBIG := aBIG_of (aT6 (List.mem_of_getElem? (i := 98) (by decide +kernel))) rfl
theorem w_1394 : Cond.code yX7_taken cX7_taken 4 (some .int) ∈ aBIG := aBIG_of (aT6 (List.mem_of_getElem? (i := 99) (by decide +kernel))) rfl
theorem w_1395 : Cond.methodLink RX7 435 yX7_over ∈ aBIG := aBIG_of (aT6 (List.mem_of_getElem? (i := 100) (by decide +kernel))) rfl
theorem w_1396 : Cond.static yX7_over ∈ aBIG := aBIG_of (aT6 (List.mem_of_getElem? (i := 101) (by decide +kernel))) rfl
theorem w_1397 : Cond.code yX7_over cX7_over 1 (some .int) ∈ aBIG := aBIG_of (aT6 (List.mem_of_getElem? (i := 102) (by decide +kernel))) rfl
theorem w_1398 : Cond.fieldLink RJ0 9 "java/lang/String" "value" "[B" ∈ aBIG := aBIG_of (aT6 (List.mem_of_getElem? (i := 103) (by decide +kernel))) rfl
theorem w_1399 : Cond.fieldLink RJ0 15 "java/lang/String" "coder" "B" ∈ aBIG := aBIG_of (aT6 (List.mem_of_getElem? (i := 104) (by decide +kernel))) rfl
theorem la_0_0 : u_lay RX0 TX0 0 ∈ aBIG := aBIG_of (aT1 (List.mem_of_getElem? (i := 104) (by decide +kernel))) rfl
theorem la_0_1 : u_lay RX0 TX0 1 ∈ aBIG := aBIG_of (aT1 (List.mem_of_getElem? (i := 106) (by decide +kernel))) rfl
theorem la_0_2 : u_lay RX0 TX0 2 ∈ aBIG := aBIG_of (aT1 (List.mem_of_getElem? (i := 108) (by decide +kernel))) rfl
theorem la_0_3 : u_lay RX0 TX0 3 ∈ aBIG := aBIG_of (aT1 (List.mem_of_getElem? (i := 110) (by decide +kernel))) rfl
theorem la_0_4 : u_lay RX0 TX0 4 ∈ aBIG := aBIG_of (aT1 (List.mem_of_getElem? (i := 112) (by decide +kernel))) rfl
theorem inB0 : ∀ w ∈ u_ws RX0 TX0 5, w ∈ aBIG := by
  intro w hw
  obtain ⟨k, hk, rfl⟩ := List.mem_map.mp hw
  have hk := List.mem_range.mp hk
  match k, hk with
  | 0, _ => exact la_0_0
  | 1, _ => exact la_0_1
  | 2, _ => exact la_0_2
  | 3, _ => exact la_0_3
  | 4, _ => exact la_0_4
  | k + 5, hk => exact absurd hk (by omega)
theorem la_1_0 : u_lay RX1 TX1 0 ∈ aBIG := aBIG_of (aT1 (List.mem_of_getElem? (i := 64) (by decide +kernel))) rfl
theorem la_1_1 : u_lay RX1 TX1 1 ∈ aBIG := aBIG_of (aT1 (List.mem_of_getElem? (i := 66) (by decide +kernel))) rfl
theorem la_1_2 : u_lay RX1 TX1 2 ∈ aBIG := aBIG_of (aT1 (List.mem_of_getElem? (i := 68) (by decide +kernel))) rfl
theorem la_1_3 : u_lay RX1 TX1 3 ∈ aBIG := aBIG_of (aT1 (List.mem_of_getElem? (i := 70) (by decide +kernel))) rfl
theorem la_1_4 : u_lay RX1 TX1 4 ∈ aBIG := aBIG_of (aT1 (List.mem_of_getElem? (i := 72) (by decide +kernel))) rfl
theorem la_1_5 : u_lay RX1 TX1 5 ∈ aBIG := aBIG_of (aT1 (List.mem_of_getElem? (i := 74) (by decide +kernel))) rfl
theorem la_1_6 : u_lay RX1 TX1 6 ∈ aBIG := aBIG_of (aT1 (List.mem_of_getElem? (i := 76) (by decide +kernel))) rfl
theorem inB1 : ∀ w ∈ u_ws RX1 TX1 7, w ∈ aBIG := by
  intro w hw
  obtain ⟨k, hk, rfl⟩ := List.mem_map.mp hw
  have hk := List.mem_range.mp hk
  match k, hk with
  | 0, _ => exact la_1_0
  | 1, _ => exact la_1_1
  | 2, _ => exact la_1_2
  | 3, _ => exact la_1_3
  | 4, _ => exact la_1_4
  | 5, _ => exact la_1_5
  | 6, _ => exact la_1_6
  | k + 7, hk => exact absurd hk (by omega)
theorem la_2_0 : u_lay RX2 TX2 0 ∈ aBIG := aBIG_of (aT1 (List.mem_of_getElem? (i := 127) (by decide +kernel))) rfl
theorem la_2_1 : u_lay RX2 TX2 1 ∈ aBIG := aBIG_of (aT1 (List.mem_of_getElem? (i := 129) (by decide +kernel))) rfl
theorem la_2_2 : u_lay RX2 TX2 2 ∈ aBIG := aBIG_of (aT1 (List.mem_of_getElem? (i := 131) (by decide +kernel))) rfl
theorem inB2 : ∀ w ∈ u_ws RX2 TX2 3, w ∈ aBIG := by
  intro w hw
  obtain ⟨k, hk, rfl⟩ := List.mem_map.mp hw
  have hk := List.mem_range.mp hk
  match k, hk with
  | 0, _ => exact la_2_0
  | 1, _ => exact la_2_1
  | 2, _ => exact la_2_2
  | k + 3, hk => exact absurd hk (by omega)
theorem la_3_0 : u_lay RX3 TX3 0 ∈ aBIG := aBIG_of (aT1 (List.mem_of_getElem? (i := 44) (by decide +kernel))) rfl
theorem la_3_1 : u_lay RX3 TX3 1 ∈ aBIG := aBIG_of (aT1 (List.mem_of_getElem? (i := 46) (by decide +kernel))) rfl
theorem la_3_2 : u_lay RX3 TX3 2 ∈ aBIG := aBIG_of (aT1 (List.mem_of_getElem? (i := 48) (by decide +kernel))) rfl
theorem la_3_3 : u_lay RX3 TX3 3 ∈ aBIG := aBIG_of (aT1 (List.mem_of_getElem? (i := 50) (by decide +kernel))) rfl
theorem la_3_4 : u_lay RX3 TX3 4 ∈ aBIG := aBIG_of (aT1 (List.mem_of_getElem? (i := 52) (by decide +kernel))) rfl
theorem inB3 : ∀ w ∈ u_ws RX3 TX3 5, w ∈ aBIG := by
  intro w hw
  obtain ⟨k, hk, rfl⟩ := List.mem_map.mp hw
  have hk := List.mem_range.mp hk
  match k, hk with
  | 0, _ => exact la_3_0
  | 1, _ => exact la_3_1
  | 2, _ => exact la_3_2
  | 3, _ => exact la_3_3
  | 4, _ => exact la_3_4
  | k + 5, hk => exact absurd hk (by omega)
theorem la_4_0 : u_lay RX4 TX4 0 ∈ aBIG := aBIG_of (aT2 (List.mem_of_getElem? (i := 93) (by decide +kernel))) rfl
theorem la_4_1 : u_lay RX4 TX4 1 ∈ aBIG := aBIG_of (aT2 (List.mem_of_getElem? (i := 95) (by decide +kernel))) rfl
theorem la_4_2 : u_lay RX4 TX4 2 ∈ aBIG := aBIG_of (aT2 (List.mem_of_getElem? (i := 97) (by decide +kernel))) rfl
theorem la_4_3 : u_lay RX4 TX4 3 ∈ aBIG := aBIG_of (aT2 (List.mem_of_getElem? (i := 99) (by decide +kernel))) rfl
theorem la_4_4 : u_lay RX4 TX4 4 ∈ aBIG := aBIG_of (aT2 (List.mem_of_getElem? (i := 101) (by decide +kernel))) rfl
theorem la_4_5 : u_lay RX4 TX4 5 ∈ aBIG := aBIG_of (aT2 (List.mem_of_getElem? (i := 103) (by decide +kernel))) rfl
theorem inB4 : ∀ w ∈ u_ws RX4 TX4 6, w ∈ aBIG := by
  intro w hw
  obtain ⟨k, hk, rfl⟩ := List.mem_map.mp hw
  have hk := List.mem_range.mp hk
  match k, hk with
  | 0, _ => exact la_4_0
  | 1, _ => exact la_4_1
  | 2, _ => exact la_4_2
  | 3, _ => exact la_4_3
  | 4, _ => exact la_4_4
  | 5, _ => exact la_4_5
  | k + 6, hk => exact absurd hk (by omega)
theorem la_5_0 : u_lay RX5 TX5 0 ∈ aBIG := aBIG_of (aT2 (List.mem_of_getElem? (i := 62) (by decide +kernel))) rfl
theorem la_5_1 : u_lay RX5 TX5 1 ∈ aBIG := aBIG_of (aT2 (List.mem_of_getElem? (i := 64) (by decide +kernel))) rfl
theorem la_5_2 : u_lay RX5 TX5 2 ∈ aBIG := aBIG_of (aT2 (List.mem_of_getElem? (i := 66) (by decide +kernel))) rfl
theorem la_5_3 : u_lay RX5 TX5 3 ∈ aBIG := aBIG_of (aT2 (List.mem_of_getElem? (i := 68) (by decide +kernel))) rfl
theorem inB5 : ∀ w ∈ u_ws RX5 TX5 4, w ∈ aBIG := by
  intro w hw
  obtain ⟨k, hk, rfl⟩ := List.mem_map.mp hw
  have hk := List.mem_range.mp hk
  match k, hk with
  | 0, _ => exact la_5_0
  | 1, _ => exact la_5_1
  | 2, _ => exact la_5_2
  | 3, _ => exact la_5_3
  | k + 4, hk => exact absurd hk (by omega)
theorem la_6_0 : u_lay RX6 TX6 0 ∈ aBIG := aBIG_of (aT2 (List.mem_of_getElem? (i := 117) (by decide +kernel))) rfl
theorem la_6_1 : u_lay RX6 TX6 1 ∈ aBIG := aBIG_of (aT2 (List.mem_of_getElem? (i := 119) (by decide +kernel))) rfl
theorem la_6_2 : u_lay RX6 TX6 2 ∈ aBIG := aBIG_of (aT2 (List.mem_of_getElem? (i := 121) (by decide +kernel))) rfl
theorem la_6_3 : u_lay RX6 TX6 3 ∈ aBIG := aBIG_of (aT2 (List.mem_of_getElem? (i := 123) (by decide +kernel))) rfl
theorem la_6_4 : u_lay RX6 TX6 4 ∈ aBIG := aBIG_of (aT2 (List.mem_of_getElem? (i := 125) (by decide +kernel))) rfl
theorem la_6_5 : u_lay RX6 TX6 5 ∈ aBIG := aBIG_of (aT2 (List.mem_of_getElem? (i := 127) (by decide +kernel))) rfl
theorem la_6_6 : u_lay RX6 TX6 6 ∈ aBIG := aBIG_of (aT2 (List.mem_of_getElem? (i := 129) (by decide +kernel))) rfl
theorem la_6_7 : u_lay RX6 TX6 7 ∈ aBIG := aBIG_of (aT2 (List.mem_of_getElem? (i := 131) (by decide +kernel))) rfl
theorem la_6_8 : u_lay RX6 TX6 8 ∈ aBIG := aBIG_of (aT2 (List.mem_of_getElem? (i := 133) (by decide +kernel))) rfl
theorem la_6_9 : u_lay RX6 TX6 9 ∈ aBIG := aBIG_of (aT2 (List.mem_of_getElem? (i := 135) (by decide +kernel))) rfl
theorem la_6_10 : u_lay RX6 TX6 10 ∈ aBIG := aBIG_of (aT2 (List.mem_of_getElem? (i := 137) (by decide +kernel))) rfl
theorem inB6 : ∀ w ∈ u_ws RX6 TX6 11, w ∈ aBIG := by
  intro w hw
  obtain ⟨k, hk, rfl⟩ := List.mem_map.mp hw
  have hk := List.mem_range.mp hk
  match k, hk with
  | 0, _ => exact la_6_0
  | 1, _ => exact la_6_1
  | 2, _ => exact la_6_2
  | 3, _ => exact la_6_3
  | 4, _ => exact la_6_4
  | 5, _ => exact la_6_5
  | 6, _ => exact la_6_6
  | 7, _ => exact la_6_7
  | 8, _ => exact la_6_8
  | 9, _ => exact la_6_9
  | 10, _ => exact la_6_10
  | k + 11, hk => exact absurd hk (by omega)
theorem la_7_0 : u_lay RX7 TX7 0 ∈ aBIG := aBIG_of (aT4 (List.mem_of_getElem? (i := 68) (by decide +kernel))) rfl
theorem la_7_1 : u_lay RX7 TX7 1 ∈ aBIG := aBIG_of (aT4 (List.mem_of_getElem? (i := 70) (by decide +kernel))) rfl
theorem la_7_2 : u_lay RX7 TX7 2 ∈ aBIG := aBIG_of (aT4 (List.mem_of_getElem? (i := 72) (by decide +kernel))) rfl
theorem la_7_3 : u_lay RX7 TX7 3 ∈ aBIG := aBIG_of (aT4 (List.mem_of_getElem? (i := 74) (by decide +kernel))) rfl
theorem la_7_4 : u_lay RX7 TX7 4 ∈ aBIG := aBIG_of (aT4 (List.mem_of_getElem? (i := 76) (by decide +kernel))) rfl
theorem la_7_5 : u_lay RX7 TX7 5 ∈ aBIG := aBIG_of (aT4 (List.mem_of_getElem? (i := 78) (by decide +kernel))) rfl
theorem la_7_6 : u_lay RX7 TX7 6 ∈ aBIG := aBIG_of (aT4 (List.mem_of_getElem? (i := 80) (by decide +kernel))) rfl
theorem la_7_7 : u_lay RX7 TX7 7 ∈ aBIG := aBIG_of (aT4 (List.mem_of_getElem? (i := 82) (by decide +kernel))) rfl
theorem la_7_8 : u_lay RX7 TX7 8 ∈ aBIG := aBIG_of (aT4 (List.mem_of_getElem? (i := 84) (by decide +kernel))) rfl
theorem la_7_9 : u_lay RX7 TX7 9 ∈ aBIG := aBIG_of (aT4 (List.mem_of_getElem? (i := 86) (by decide +kernel))) rfl
theorem la_7_10 : u_lay RX7 TX7 10 ∈ aBIG := aBIG_of (aT4 (List.mem_of_getElem? (i := 88) (by decide +kernel))) rfl
theorem la_7_11 : u_lay RX7 TX7 11 ∈ aBIG := aBIG_of (aT4 (List.mem_of_getElem? (i := 90) (by decide +kernel))) rfl
theorem la_7_12 : u_lay RX7 TX7 12 ∈ aBIG := aBIG_of (aT4 (List.mem_of_getElem? (i := 92) (by decide +kernel))) rfl
theorem la_7_13 : u_lay RX7 TX7 13 ∈ aBIG := aBIG_of (aT4 (List.mem_of_getElem? (i := 94) (by decide +kernel))) rfl
theorem la_7_14 : u_lay RX7 TX7 14 ∈ aBIG := aBIG_of (aT4 (List.mem_of_getElem? (i := 96) (by decide +kernel))) rfl
theorem la_7_15 : u_lay RX7 TX7 15 ∈ aBIG := aBIG_of (aT4 (List.mem_of_getElem? (i := 98) (by decide +kernel))) rfl
theorem la_7_16 : u_lay RX7 TX7 16 ∈ aBIG := aBIG_of (aT4 (List.mem_of_getElem? (i := 100) (by decide +kernel))) rfl
theorem la_7_17 : u_lay RX7 TX7 17 ∈ aBIG := aBIG_of (aT4 (List.mem_of_getElem? (i := 102) (by decide +kernel))) rfl
theorem la_7_18 : u_lay RX7 TX7 18 ∈ aBIG := aBIG_of (aT4 (List.mem_of_getElem? (i := 104) (by decide +kernel))) rfl
theorem la_7_19 : u_lay RX7 TX7 19 ∈ aBIG := aBIG_of (aT4 (List.mem_of_getElem? (i := 106) (by decide +kernel))) rfl
theorem la_7_20 : u_lay RX7 TX7 20 ∈ aBIG := aBIG_of (aT4 (List.mem_of_getElem? (i := 108) (by decide +kernel))) rfl
theorem la_7_21 : u_lay RX7 TX7 21 ∈ aBIG := aBIG_of (aT4 (List.mem_of_getElem? (i := 110) (by decide +kernel))) rfl
theorem la_7_22 : u_lay RX7 TX7 22 ∈ aBIG := aBIG_of (aT4 (List.mem_of_getElem? (i := 112) (by decide +kernel))) rfl
theorem la_7_23 : u_lay RX7 TX7 23 ∈ aBIG := aBIG_of (aT4 (List.mem_of_getElem? (i := 114) (by decide +kernel))) rfl
theorem la_7_24 : u_lay RX7 TX7 24 ∈ aBIG := aBIG_of (aT4 (List.mem_of_getElem? (i := 116) (by decide +kernel))) rfl
theorem la_7_25 : u_lay RX7 TX7 25 ∈ aBIG := aBIG_of (aT4 (List.mem_of_getElem? (i := 118) (by decide +kernel))) rfl
theorem la_7_26 : u_lay RX7 TX7 26 ∈ aBIG := aBIG_of (aT4 (List.mem_of_getElem? (i := 120) (by decide +kernel))) rfl
theorem la_7_27 : u_lay RX7 TX7 27 ∈ aBIG := aBIG_of (aT4 (List.mem_of_getElem? (i := 122) (by decide +kernel))) rfl
theorem la_7_28 : u_lay RX7 TX7 28 ∈ aBIG := aBIG_of (aT4 (List.mem_of_getElem? (i := 124) (by decide +kernel))) rfl
theorem la_7_29 : u_lay RX7 TX7 29 ∈ aBIG := aBIG_of (aT4 (List.mem_of_getElem? (i := 126) (by decide +kernel))) rfl
theorem la_7_30 : u_lay RX7 TX7 30 ∈ aBIG := aBIG_of (aT4 (List.mem_of_getElem? (i := 128) (by decide +kernel))) rfl
theorem la_7_31 : u_lay RX7 TX7 31 ∈ aBIG := aBIG_of (aT4 (List.mem_of_getElem? (i := 130) (by decide +kernel))) rfl
theorem la_7_32 : u_lay RX7 TX7 32 ∈ aBIG := aBIG_of (aT4 (List.mem_of_getElem? (i := 132) (by decide +kernel))) rfl
theorem la_7_33 : u_lay RX7 TX7 33 ∈ aBIG := aBIG_of (aT4 (List.mem_of_getElem? (i := 134) (by decide +kernel))) rfl
theorem la_7_34 : u_lay RX7 TX7 34 ∈ aBIG := aBIG_of (aT4 (List.mem_of_getElem? (i := 136) (by decide +kernel))) rfl
theorem la_7_35 : u_lay RX7 TX7 35 ∈ aBIG := aBIG_of (aT4 (List.mem_of_getElem? (i := 138) (by decide +kernel))) rfl
theorem la_7_36 : u_lay RX7 TX7 36 ∈ aBIG := aBIG_of (aT4 (List.mem_of_getElem? (i := 140) (by decide +kernel))) rfl
theorem la_7_37 : u_lay RX7 TX7 37 ∈ aBIG := aBIG_of (aT4 (List.mem_of_getElem? (i := 142) (by decide +kernel))) rfl
theorem la_7_38 : u_lay RX7 TX7 38 ∈ aBIG := aBIG_of (aT4 (List.mem_of_getElem? (i := 144) (by decide +kernel))) rfl
theorem la_7_39 : u_lay RX7 TX7 39 ∈ aBIG := aBIG_of (aT4 (List.mem_of_getElem? (i := 146) (by decide +kernel))) rfl
theorem la_7_40 : u_lay RX7 TX7 40 ∈ aBIG := aBIG_of (aT4 (List.mem_of_getElem? (i := 148) (by decide +kernel))) rfl
theorem inB7 : ∀ w ∈ u_ws RX7 TX7 41, w ∈ aBIG := by
  intro w hw
  obtain ⟨k, hk, rfl⟩ := List.mem_map.mp hw
  have hk := List.mem_range.mp hk
  match k, hk with
  | 0, _ => exact la_7_0
  | 1, _ => exact la_7_1
  | 2, _ => exact la_7_2
  | 3, _ => exact la_7_3
  | 4, _ => exact la_7_4
  | 5, _ => exact la_7_5
  | 6, _ => exact la_7_6
  | 7, _ => exact la_7_7
  | 8, _ => exact la_7_8
  | 9, _ => exact la_7_9
  | 10, _ => exact la_7_10
  | 11, _ => exact la_7_11
  | 12, _ => exact la_7_12
  | 13, _ => exact la_7_13
  | 14, _ => exact la_7_14
  | 15, _ => exact la_7_15
  | 16, _ => exact la_7_16
  | 17, _ => exact la_7_17
  | 18, _ => exact la_7_18
  | 19, _ => exact la_7_19
  | 20, _ => exact la_7_20
  | 21, _ => exact la_7_21
  | 22, _ => exact la_7_22
  | 23, _ => exact la_7_23
  | 24, _ => exact la_7_24
  | 25, _ => exact la_7_25
  | 26, _ => exact la_7_26
  | 27, _ => exact la_7_27
  | 28, _ => exact la_7_28
  | 29, _ => exact la_7_29
  | 30, _ => exact la_7_30
  | 31, _ => exact la_7_31
  | 32, _ => exact la_7_32
  | 33, _ => exact la_7_33
  | 34, _ => exact la_7_34
  | 35, _ => exact la_7_35
  | 36, _ => exact la_7_36
  | 37, _ => exact la_7_37
  | 38, _ => exact la_7_38
  | 39, _ => exact la_7_39
  | 40, _ => exact la_7_40
  | k + 41, hk => exact absurd hk (by omega)
