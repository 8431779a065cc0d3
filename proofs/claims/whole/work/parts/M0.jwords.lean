/-! The JDK's own members that the class's script calls: their words in the tables, their instructions. -/
theorem jw_in {w : Cond} (h : w ∈ tables_1) (hg : goodWord w = true) : w ∈ lw_good := List.mem_filter.mpr ⟨List.mem_append_right _ h, hg⟩
theorem jw_co_coder : Cond.code yJ0_coder_7d493 cJ0_coder_7d493 1 (some .byte) ∈ lw_good := jw_in (List.mem_append_left _ (List.mem_of_getElem? (i := 45) (show tables_1_1[45]? = some _ from rfl))) rfl
theorem jw_in_coder : Cond.instanceMethod yJ0_coder_7d493 ∈ lw_good := jw_in (List.mem_append_left _ (List.mem_of_getElem? (i := 43) (show tables_1_1[43]? = some _ from rfl))) rfl
theorem jw_se_coder : Cond.selects RJ0 yJ0_coder_7d493 yJ0_coder_7d493 ∈ lw_good := jw_in (List.mem_append_left _ (List.mem_of_getElem? (i := 44) (show tables_1_1[44]? = some _ from rfl))) rfl
theorem jw_co_isL : Cond.code yJ0_isLatin1_aae02 cJ0_isLatin1_aae02 1 (some .boolean) ∈ lw_good := jw_in (List.mem_append_left _ (List.mem_of_getElem? (i := 55) (show tables_1_1[55]? = some _ from rfl))) rfl
theorem jw_in_isL : Cond.instanceMethod yJ0_isLatin1_aae02 ∈ lw_good := jw_in (List.mem_append_left _ (List.mem_of_getElem? (i := 53) (show tables_1_1[53]? = some _ from rfl))) rfl
theorem jw_se_isL : Cond.selects RJ0 yJ0_isLatin1_aae02 yJ0_isLatin1_aae02 ∈ lw_good := jw_in (List.mem_append_left _ (List.mem_of_getElem? (i := 54) (show tables_1_1[54]? = some _ from rfl))) rfl
theorem jw_co_len : Cond.code yJ0_length_8abf5 cJ0_length_8abf5 1 (some .int) ∈ lw_good := jw_in (List.mem_append_left _ (List.mem_of_getElem? (i := 41) (show tables_1_1[41]? = some _ from rfl))) rfl
theorem jw_in_len : Cond.instanceMethod yJ0_length_8abf5 ∈ lw_good := jw_in (List.mem_append_left _ (List.mem_of_getElem? (i := 39) (show tables_1_1[39]? = some _ from rfl))) rfl
theorem jw_se_len : Cond.selects RJ0 yJ0_length_8abf5 yJ0_length_8abf5 ∈ lw_good := jw_in (List.mem_append_left _ (List.mem_of_getElem? (i := 40) (show tables_1_1[40]? = some _ from rfl))) rfl
theorem jw_co_chr : Cond.code yJ0_charAt_5068e cJ0_charAt_5068e 2 (some .char) ∈ lw_good := jw_in (List.mem_append_left _ (List.mem_of_getElem? (i := 51) (show tables_1_1[51]? = some _ from rfl))) rfl
theorem jw_in_chr : Cond.instanceMethod yJ0_charAt_5068e ∈ lw_good := jw_in (List.mem_append_left _ (List.mem_of_getElem? (i := 49) (show tables_1_1[49]? = some _ from rfl))) rfl
theorem jw_se_chr : Cond.selects RJ0 yJ0_charAt_5068e yJ0_charAt_5068e ∈ lw_good := jw_in (List.mem_append_left _ (List.mem_of_getElem? (i := 50) (show tables_1_1[50]? = some _ from rfl))) rfl
theorem jw_co_cki : Cond.code yJ0_checkIndex_df160 cJ0_checkIndex_df160 2 none ∈ lw_good := jw_in (List.mem_append_left _ (List.mem_of_getElem? (i := 61) (show tables_1_1[61]? = some _ from rfl))) rfl
theorem jw_st_cki : Cond.static yJ0_checkIndex_df160 ∈ lw_good := jw_in (List.mem_append_left _ (List.mem_of_getElem? (i := 60) (show tables_1_1[60]? = some _ from rfl))) rfl
theorem jw_co_ix1 : Cond.code yJ0_indexOf_0f7a4 cJ0_indexOf_0f7a4 2 (some .int) ∈ lw_good := jw_in (List.mem_append_right _ (List.mem_append_right _ (List.mem_append_left _ (List.mem_of_getElem? (i := 128) (show tables_1_3[128]? = some _ from rfl))))) rfl
theorem jw_in_ix1 : Cond.instanceMethod yJ0_indexOf_0f7a4 ∈ lw_good := jw_in (List.mem_append_right _ (List.mem_append_right _ (List.mem_append_left _ (List.mem_of_getElem? (i := 126) (show tables_1_3[126]? = some _ from rfl))))) rfl
theorem jw_se_ix1 : Cond.selects RJ0 yJ0_indexOf_0f7a4 yJ0_indexOf_0f7a4 ∈ lw_good := jw_in (List.mem_append_right _ (List.mem_append_right _ (List.mem_append_left _ (List.mem_of_getElem? (i := 127) (show tables_1_3[127]? = some _ from rfl))))) rfl
theorem jw_co_ix2 : Cond.code yJ0_indexOf_7cf53 cJ0_indexOf_7cf53 3 (some .int) ∈ lw_good := jw_in (List.mem_append_right _ (List.mem_append_right _ (List.mem_append_left _ (List.mem_of_getElem? (i := 132) (show tables_1_3[132]? = some _ from rfl))))) rfl
theorem jw_in_ix2 : Cond.instanceMethod yJ0_indexOf_7cf53 ∈ lw_good := jw_in (List.mem_append_right _ (List.mem_append_right _ (List.mem_append_left _ (List.mem_of_getElem? (i := 130) (show tables_1_3[130]? = some _ from rfl))))) rfl
theorem jw_se_ix2 : Cond.selects RJ0 yJ0_indexOf_7cf53 yJ0_indexOf_7cf53 ∈ lw_good := jw_in (List.mem_append_right _ (List.mem_append_right _ (List.mem_append_left _ (List.mem_of_getElem? (i := 131) (show tables_1_3[131]? = some _ from rfl))))) rfl
theorem jw_co_lch : Cond.code yJ1_charAt_3b067 cJ1_charAt_3b067 2 (some .char) ∈ lw_good := jw_in (List.mem_append_left _ (List.mem_of_getElem? (i := 58) (show tables_1_1[58]? = some _ from rfl))) rfl
theorem jw_st_lch : Cond.static yJ1_charAt_3b067 ∈ lw_good := jw_in (List.mem_append_left _ (List.mem_of_getElem? (i := 57) (show tables_1_1[57]? = some _ from rfl))) rfl
theorem jw_co_can : Cond.code yJ1_canEncode_9a6ad cJ1_canEncode_9a6ad 1 (some .boolean) ∈ lw_good := jw_in (List.mem_append_right _ (List.mem_append_right _ (List.mem_append_left _ (List.mem_of_getElem? (i := 139) (show tables_1_3[139]? = some _ from rfl))))) rfl
theorem jw_st_can : Cond.static yJ1_canEncode_9a6ad ∈ lw_good := jw_in (List.mem_append_right _ (List.mem_append_right _ (List.mem_append_left _ (List.mem_of_getElem? (i := 138) (show tables_1_3[138]? = some _ from rfl))))) rfl
theorem jw_co_lix : Cond.code yJ1_indexOf_4cfef cJ1_indexOf_4cfef 4 (some .int) ∈ lw_good := jw_in (List.mem_append_right _ (List.mem_append_right _ (List.mem_append_left _ (List.mem_of_getElem? (i := 136) (show tables_1_3[136]? = some _ from rfl))))) rfl
theorem jw_st_lix : Cond.static yJ1_indexOf_4cfef ∈ lw_good := jw_in (List.mem_append_right _ (List.mem_append_right _ (List.mem_append_left _ (List.mem_of_getElem? (i := 135) (show tables_1_3[135]? = some _ from rfl))))) rfl
theorem jw_co_lic : Cond.code yJ1_indexOfChar_4cfef cJ1_indexOfChar_4cfef 6 (some .int) ∈ lw_good := jw_in (List.mem_append_right _ (List.mem_append_right _ (List.mem_append_left _ (List.mem_of_getElem? (i := 148) (show tables_1_3[148]? = some _ from rfl))))) rfl
theorem jw_st_lic : Cond.static yJ1_indexOfChar_4cfef ∈ lw_good := jw_in (List.mem_append_right _ (List.mem_append_right _ (List.mem_append_left _ (List.mem_of_getElem? (i := 147) (show tables_1_3[147]? = some _ from rfl))))) rfl
theorem jw_co_pci : Cond.code yJ3_checkIndex_8e157 cJ3_checkIndex_8e157 3 (some .int) ∈ lw_good := jw_in (List.mem_append_left _ (List.mem_of_getElem? (i := 66) (show tables_1_1[66]? = some _ from rfl))) rfl
theorem jw_st_pci : Cond.static yJ3_checkIndex_8e157 ∈ lw_good := jw_in (List.mem_append_left _ (List.mem_of_getElem? (i := 65) (show tables_1_1[65]? = some _ from rfl))) rfl
theorem jw_ml_coder : Cond.methodLink RJ0 335 yJ0_coder_7d493 ∈ lw_good := jw_in (List.mem_append_left _ (List.mem_of_getElem? (i := 42) (show tables_1_1[42]? = some _ from rfl))) rfl
theorem jw_ml_isL : Cond.methodLink RJ0 492 yJ0_isLatin1_aae02 ∈ lw_good := jw_in (List.mem_append_left _ (List.mem_of_getElem? (i := 52) (show tables_1_1[52]? = some _ from rfl))) rfl
theorem jw_ml_lch : Cond.methodLink RJ0 495 yJ1_charAt_3b067 ∈ lw_good := jw_in (List.mem_append_left _ (List.mem_of_getElem? (i := 56) (show tables_1_1[56]? = some _ from rfl))) rfl
theorem jw_ml_cki : Cond.methodLink RJ1 9 yJ0_checkIndex_df160 ∈ lw_good := jw_in (List.mem_append_left _ (List.mem_of_getElem? (i := 59) (show tables_1_1[59]? = some _ from rfl))) rfl
theorem jw_ml_pci : Cond.methodLink RJ0 1059 yJ3_checkIndex_8e157 ∈ lw_good := jw_in (List.mem_append_left _ (List.mem_of_getElem? (i := 64) (show tables_1_1[64]? = some _ from rfl))) rfl
theorem jw_ml_ix2 : Cond.methodLink RJ0 633 yJ0_indexOf_7cf53 ∈ lw_good := jw_in (List.mem_append_right _ (List.mem_append_right _ (List.mem_append_left _ (List.mem_of_getElem? (i := 129) (show tables_1_3[129]? = some _ from rfl))))) rfl
theorem jw_ml_len : Cond.methodLink RJ0 505 yJ0_length_8abf5 ∈ lw_good := jw_in (List.mem_append_right _ (List.mem_append_right _ (List.mem_append_left _ (List.mem_of_getElem? (i := 133) (show tables_1_3[133]? = some _ from rfl))))) rfl
theorem jw_ml_lix : Cond.methodLink RJ0 637 yJ1_indexOf_4cfef ∈ lw_good := jw_in (List.mem_append_right _ (List.mem_append_right _ (List.mem_append_left _ (List.mem_of_getElem? (i := 134) (show tables_1_3[134]? = some _ from rfl))))) rfl
theorem jw_ml_can : Cond.methodLink RJ1 88 yJ1_canEncode_9a6ad ∈ lw_good := jw_in (List.mem_append_right _ (List.mem_append_right _ (List.mem_append_left _ (List.mem_of_getElem? (i := 137) (show tables_1_3[137]? = some _ from rfl))))) rfl
theorem jw_ml_lic : Cond.methodLink RJ1 95 yJ1_indexOfChar_4cfef ∈ lw_good := jw_in (List.mem_append_right _ (List.mem_append_right _ (List.mem_append_left _ (List.mem_of_getElem? (i := 146) (show tables_1_3[146]? = some _ from rfl))))) rfl
theorem jw_fl_cs : Cond.fieldLink RJ0 38 "java/lang/String" "COMPACT_STRINGS" "Z" ∈ lw_good := jw_in (List.mem_append_left _ (List.mem_of_getElem? (i := 46) (show tables_1_1[46]? = some _ from rfl))) rfl
theorem jw_fl_cb : Cond.fieldLink RJ0 15 "java/lang/String" "coder" "B" ∈ lw_good := jw_in (List.mem_append_right _ (List.mem_append_right _ (List.mem_append_right _ (List.mem_append_right _ (List.mem_append_right _ (List.mem_append_right _ (List.mem_append_right _ (List.mem_append_right _ (List.mem_of_getElem? (i := 201) (show tables_1_9[201]? = some _ from rfl)))))))))) rfl
theorem jw_fl_va : Cond.fieldLink RJ0 9 "java/lang/String" "value" "[B" ∈ lw_good := jw_in (List.mem_append_right _ (List.mem_append_right _ (List.mem_append_right _ (List.mem_append_right _ (List.mem_append_right _ (List.mem_append_right _ (List.mem_append_right _ (List.mem_append_right _ (List.mem_of_getElem? (i := 200) (show tables_1_9[200]? = some _ from rfl)))))))))) rfl
theorem jw_fl_sf : Cond.fieldLink RJ0 1053 "jdk/internal/util/Preconditions" "SIOOBE_FORMATTER" "Ljava/util/function/BiFunction;" ∈ lw_good := jw_in (List.mem_append_left _ (List.mem_of_getElem? (i := 62) (show tables_1_1[62]? = some _ from rfl))) rfl
theorem jw_i_s : Cond.initialized RJ0 ∈ lw_good := jw_in (List.mem_append_left _ (List.mem_of_getElem? (i := 3) (show tables_1_1[3]? = some _ from rfl))) rfl
theorem jw_i_l : Cond.initialized RJ1 ∈ lw_good := jw_in (List.mem_append_left _ (List.mem_of_getElem? (i := 4) (show tables_1_1[4]? = some _ from rfl))) rfl
theorem jw_i_p : Cond.initialized RJ3 ∈ lw_good := jw_in (List.mem_append_left _ (List.mem_of_getElem? (i := 5) (show tables_1_1[5]? = some _ from rfl))) rfl
theorem jw_i_m : Cond.initialized "java/lang/Math" ∈ lw_good := jw_in (List.mem_append_left _ (List.mem_of_getElem? (i := 20) (show tables_1_1[20]? = some _ from rfl))) rfl
theorem jw_ml_max : Cond.methodLink RJ1 92 Lib.Math.max.name ∈ lw_good := jw_in (List.mem_append_right _ (List.mem_append_right _ (List.mem_append_left _ (List.mem_of_getElem? (i := 140) (show tables_1_3[140]? = some _ from rfl))))) rfl
theorem jw_st_max : Cond.static Lib.Math.max.name ∈ lw_good := jw_in (List.mem_append_right _ (List.mem_append_right _ (List.mem_append_left _ (List.mem_of_getElem? (i := 141) (show tables_1_3[141]? = some _ from rfl))))) rfl
theorem jw_co_max : Cond.code Lib.Math.max.name Lib.Math.max.code 2 (some .int) ∈ lw_good := jw_in (List.mem_append_right _ (List.mem_append_right _ (List.mem_append_left _ (List.mem_of_getElem? (i := 142) (show tables_1_3[142]? = some _ from rfl))))) rfl
theorem jw_ml_min : Cond.methodLink RJ1 38 Lib.Math.min.name ∈ lw_good := jw_in (List.mem_append_right _ (List.mem_append_right _ (List.mem_append_left _ (List.mem_of_getElem? (i := 143) (show tables_1_3[143]? = some _ from rfl))))) rfl
theorem jw_st_min : Cond.static Lib.Math.min.name ∈ lw_good := jw_in (List.mem_append_right _ (List.mem_append_right _ (List.mem_append_left _ (List.mem_of_getElem? (i := 144) (show tables_1_3[144]? = some _ from rfl))))) rfl
theorem jw_co_min : Cond.code Lib.Math.min.name Lib.Math.min.code 2 (some .int) ∈ lw_good := jw_in (List.mem_append_right _ (List.mem_append_right _ (List.mem_append_left _ (List.mem_of_getElem? (i := 145) (show tables_1_3[145]? = some _ from rfl))))) rfl
theorem jd_coder_0 : decode cJ0_coder_7d493 0 = .ok (.getstatic 38, 3) := by decide +kernel
theorem jd_coder_3 : decode cJ0_coder_7d493 3 = .ok (.ifCond .eq 10, 3) := by decide +kernel
theorem jd_coder_6 : decode cJ0_coder_7d493 6 = .ok (.aload_n 0, 1) := by decide +kernel
theorem jd_coder_7 : decode cJ0_coder_7d493 7 = .ok (.getfield 15, 3) := by decide +kernel
theorem jd_coder_10 : decode cJ0_coder_7d493 10 = .ok (.goto 4, 3) := by decide +kernel
theorem jd_coder_13 : decode cJ0_coder_7d493 13 = .ok (.iconst 1, 1) := by decide +kernel
theorem jd_coder_14 : decode cJ0_coder_7d493 14 = .ok (.ireturn, 1) := by decide +kernel
theorem jd_isL_0 : decode cJ0_isLatin1_aae02 0 = .ok (.getstatic 38, 3) := by decide +kernel
theorem jd_isL_3 : decode cJ0_isLatin1_aae02 3 = .ok (.ifCond .eq 14, 3) := by decide +kernel
theorem jd_isL_6 : decode cJ0_isLatin1_aae02 6 = .ok (.aload_n 0, 1) := by decide +kernel
theorem jd_isL_7 : decode cJ0_isLatin1_aae02 7 = .ok (.getfield 15, 3) := by decide +kernel
theorem jd_isL_10 : decode cJ0_isLatin1_aae02 10 = .ok (.ifCond .ne 7, 3) := by decide +kernel
theorem jd_isL_13 : decode cJ0_isLatin1_aae02 13 = .ok (.iconst 1, 1) := by decide +kernel
theorem jd_isL_14 : decode cJ0_isLatin1_aae02 14 = .ok (.goto 4, 3) := by decide +kernel
theorem jd_isL_17 : decode cJ0_isLatin1_aae02 17 = .ok (.iconst 0, 1) := by decide +kernel
theorem jd_isL_18 : decode cJ0_isLatin1_aae02 18 = .ok (.ireturn, 1) := by decide +kernel
theorem jd_len_0 : decode cJ0_length_8abf5 0 = .ok (.aload_n 0, 1) := by decide +kernel
theorem jd_len_1 : decode cJ0_length_8abf5 1 = .ok (.getfield 9, 3) := by decide +kernel
theorem jd_len_4 : decode cJ0_length_8abf5 4 = .ok (.arraylength, 1) := by decide +kernel
theorem jd_len_5 : decode cJ0_length_8abf5 5 = .ok (.aload_n 0, 1) := by decide +kernel
theorem jd_len_6 : decode cJ0_length_8abf5 6 = .ok (.invokevirtual 335, 3) := by decide +kernel
theorem jd_len_9 : decode cJ0_length_8abf5 9 = .ok (.ishr, 1) := by decide +kernel
theorem jd_len_10 : decode cJ0_length_8abf5 10 = .ok (.ireturn, 1) := by decide +kernel
theorem jd_chr_0 : decode cJ0_charAt_5068e 0 = .ok (.aload_n 0, 1) := by decide +kernel
theorem jd_chr_1 : decode cJ0_charAt_5068e 1 = .ok (.invokevirtual 492, 3) := by decide +kernel
theorem jd_chr_4 : decode cJ0_charAt_5068e 4 = .ok (.ifCond .eq 12, 3) := by decide +kernel
theorem jd_chr_7 : decode cJ0_charAt_5068e 7 = .ok (.aload_n 0, 1) := by decide +kernel
theorem jd_chr_8 : decode cJ0_charAt_5068e 8 = .ok (.getfield 9, 3) := by decide +kernel
theorem jd_chr_11 : decode cJ0_charAt_5068e 11 = .ok (.iload_n 1, 1) := by decide +kernel
theorem jd_chr_12 : decode cJ0_charAt_5068e 12 = .ok (.invokestatic 495, 3) := by decide +kernel
theorem jd_chr_15 : decode cJ0_charAt_5068e 15 = .ok (.ireturn, 1) := by decide +kernel
theorem jd_chr_16 : decode cJ0_charAt_5068e 16 = .ok (.aload_n 0, 1) := by decide +kernel
theorem jd_chr_17 : decode cJ0_charAt_5068e 17 = .ok (.getfield 9, 3) := by decide +kernel
theorem jd_chr_20 : decode cJ0_charAt_5068e 20 = .ok (.iload_n 1, 1) := by decide +kernel
theorem jd_chr_21 : decode cJ0_charAt_5068e 21 = .ok (.invokestatic 498, 3) := by decide +kernel
theorem jd_chr_24 : decode cJ0_charAt_5068e 24 = .ok (.ireturn, 1) := by decide +kernel
theorem jd_cki_0 : decode cJ0_checkIndex_df160 0 = .ok (.iload_n 0, 1) := by decide +kernel
theorem jd_cki_1 : decode cJ0_checkIndex_df160 1 = .ok (.iload_n 1, 1) := by decide +kernel
theorem jd_cki_2 : decode cJ0_checkIndex_df160 2 = .ok (.getstatic 1053, 3) := by decide +kernel
theorem jd_cki_5 : decode cJ0_checkIndex_df160 5 = .ok (.invokestatic 1059, 3) := by decide +kernel
theorem jd_cki_8 : decode cJ0_checkIndex_df160 8 = .ok (.pop, 1) := by decide +kernel
theorem jd_cki_9 : decode cJ0_checkIndex_df160 9 = .ok (.return_, 1) := by decide +kernel
theorem jd_ix1_0 : decode cJ0_indexOf_0f7a4 0 = .ok (.aload_n 0, 1) := by decide +kernel
theorem jd_ix1_1 : decode cJ0_indexOf_0f7a4 1 = .ok (.iload_n 1, 1) := by decide +kernel
theorem jd_ix1_2 : decode cJ0_indexOf_0f7a4 2 = .ok (.iconst 0, 1) := by decide +kernel
theorem jd_ix1_3 : decode cJ0_indexOf_0f7a4 3 = .ok (.invokevirtual 633, 3) := by decide +kernel
theorem jd_ix1_6 : decode cJ0_indexOf_0f7a4 6 = .ok (.ireturn, 1) := by decide +kernel
theorem jd_ix2_0 : decode cJ0_indexOf_7cf53 0 = .ok (.aload_n 0, 1) := by decide +kernel
theorem jd_ix2_1 : decode cJ0_indexOf_7cf53 1 = .ok (.invokevirtual 492, 3) := by decide +kernel
theorem jd_ix2_4 : decode cJ0_indexOf_7cf53 4 = .ok (.ifCond .eq 19, 3) := by decide +kernel
theorem jd_ix2_7 : decode cJ0_indexOf_7cf53 7 = .ok (.aload_n 0, 1) := by decide +kernel
theorem jd_ix2_8 : decode cJ0_indexOf_7cf53 8 = .ok (.getfield 9, 3) := by decide +kernel
theorem jd_ix2_11 : decode cJ0_indexOf_7cf53 11 = .ok (.iload_n 1, 1) := by decide +kernel
theorem jd_ix2_12 : decode cJ0_indexOf_7cf53 12 = .ok (.iload_n 2, 1) := by decide +kernel
theorem jd_ix2_13 : decode cJ0_indexOf_7cf53 13 = .ok (.aload_n 0, 1) := by decide +kernel
theorem jd_ix2_14 : decode cJ0_indexOf_7cf53 14 = .ok (.invokevirtual 505, 3) := by decide +kernel
theorem jd_ix2_17 : decode cJ0_indexOf_7cf53 17 = .ok (.invokestatic 637, 3) := by decide +kernel
theorem jd_ix2_20 : decode cJ0_indexOf_7cf53 20 = .ok (.goto 16, 3) := by decide +kernel
theorem jd_ix2_23 : decode cJ0_indexOf_7cf53 23 = .ok (.aload_n 0, 1) := by decide +kernel
theorem jd_ix2_24 : decode cJ0_indexOf_7cf53 24 = .ok (.getfield 9, 3) := by decide +kernel
theorem jd_ix2_27 : decode cJ0_indexOf_7cf53 27 = .ok (.iload_n 1, 1) := by decide +kernel
theorem jd_ix2_28 : decode cJ0_indexOf_7cf53 28 = .ok (.iload_n 2, 1) := by decide +kernel
theorem jd_ix2_29 : decode cJ0_indexOf_7cf53 29 = .ok (.aload_n 0, 1) := by decide +kernel
theorem jd_ix2_30 : decode cJ0_indexOf_7cf53 30 = .ok (.invokevirtual 505, 3) := by decide +kernel
theorem jd_ix2_33 : decode cJ0_indexOf_7cf53 33 = .ok (.invokestatic 640, 3) := by decide +kernel
theorem jd_ix2_36 : decode cJ0_indexOf_7cf53 36 = .ok (.ireturn, 1) := by decide +kernel
theorem jd_lch_0 : decode cJ1_charAt_3b067 0 = .ok (.iload_n 1, 1) := by decide +kernel
theorem jd_lch_1 : decode cJ1_charAt_3b067 1 = .ok (.aload_n 0, 1) := by decide +kernel
theorem jd_lch_2 : decode cJ1_charAt_3b067 2 = .ok (.arraylength, 1) := by decide +kernel
theorem jd_lch_3 : decode cJ1_charAt_3b067 3 = .ok (.invokestatic 9, 3) := by decide +kernel
theorem jd_lch_6 : decode cJ1_charAt_3b067 6 = .ok (.aload_n 0, 1) := by decide +kernel
theorem jd_lch_7 : decode cJ1_charAt_3b067 7 = .ok (.iload_n 1, 1) := by decide +kernel
theorem jd_lch_8 : decode cJ1_charAt_3b067 8 = .ok (.baload, 1) := by decide +kernel
theorem jd_lch_9 : decode cJ1_charAt_3b067 9 = .ok (.sipush 255, 3) := by decide +kernel
theorem jd_lch_12 : decode cJ1_charAt_3b067 12 = .ok (.iand, 1) := by decide +kernel
theorem jd_lch_13 : decode cJ1_charAt_3b067 13 = .ok (.i2c, 1) := by decide +kernel
theorem jd_lch_14 : decode cJ1_charAt_3b067 14 = .ok (.ireturn, 1) := by decide +kernel
theorem jd_can_0 : decode cJ1_canEncode_9a6ad 0 = .ok (.iload_n 0, 1) := by decide +kernel
theorem jd_can_1 : decode cJ1_canEncode_9a6ad 1 = .ok (.ifCond .lt 14, 3) := by decide +kernel
theorem jd_can_4 : decode cJ1_canEncode_9a6ad 4 = .ok (.iload_n 0, 1) := by decide +kernel
theorem jd_can_5 : decode cJ1_canEncode_9a6ad 5 = .ok (.sipush 255, 3) := by decide +kernel
theorem jd_can_8 : decode cJ1_canEncode_9a6ad 8 = .ok (.if_icmp .gt 7, 3) := by decide +kernel
theorem jd_can_11 : decode cJ1_canEncode_9a6ad 11 = .ok (.iconst 1, 1) := by decide +kernel
theorem jd_can_12 : decode cJ1_canEncode_9a6ad 12 = .ok (.goto 4, 3) := by decide +kernel
theorem jd_can_15 : decode cJ1_canEncode_9a6ad 15 = .ok (.iconst 0, 1) := by decide +kernel
theorem jd_can_16 : decode cJ1_canEncode_9a6ad 16 = .ok (.ireturn, 1) := by decide +kernel
theorem jd_lix_0 : decode cJ1_indexOf_4cfef 0 = .ok (.iload_n 1, 1) := by decide +kernel
theorem jd_lix_1 : decode cJ1_indexOf_4cfef 1 = .ok (.invokestatic 88, 3) := by decide +kernel
theorem jd_lix_4 : decode cJ1_indexOf_4cfef 4 = .ok (.ifCond .ne 5, 3) := by decide +kernel
theorem jd_lix_7 : decode cJ1_indexOf_4cfef 7 = .ok (.iconst (-1), 1) := by decide +kernel
theorem jd_lix_8 : decode cJ1_indexOf_4cfef 8 = .ok (.ireturn, 1) := by decide +kernel
theorem jd_lix_9 : decode cJ1_indexOf_4cfef 9 = .ok (.iload_n 2, 1) := by decide +kernel
theorem jd_lix_10 : decode cJ1_indexOf_4cfef 10 = .ok (.iconst 0, 1) := by decide +kernel
theorem jd_lix_11 : decode cJ1_indexOf_4cfef 11 = .ok (.invokestatic 92, 3) := by decide +kernel
theorem jd_lix_14 : decode cJ1_indexOf_4cfef 14 = .ok (.istore_n 2, 1) := by decide +kernel
theorem jd_lix_15 : decode cJ1_indexOf_4cfef 15 = .ok (.iload_n 3, 1) := by decide +kernel
theorem jd_lix_16 : decode cJ1_indexOf_4cfef 16 = .ok (.aload_n 0, 1) := by decide +kernel
theorem jd_lix_17 : decode cJ1_indexOf_4cfef 17 = .ok (.arraylength, 1) := by decide +kernel
theorem jd_lix_18 : decode cJ1_indexOf_4cfef 18 = .ok (.invokestatic 38, 3) := by decide +kernel
theorem jd_lix_21 : decode cJ1_indexOf_4cfef 21 = .ok (.istore_n 3, 1) := by decide +kernel
theorem jd_lix_22 : decode cJ1_indexOf_4cfef 22 = .ok (.iload_n 2, 1) := by decide +kernel
theorem jd_lix_23 : decode cJ1_indexOf_4cfef 23 = .ok (.iload_n 3, 1) := by decide +kernel
theorem jd_lix_24 : decode cJ1_indexOf_4cfef 24 = .ok (.if_icmp .lt 5, 3) := by decide +kernel
theorem jd_lix_27 : decode cJ1_indexOf_4cfef 27 = .ok (.iconst (-1), 1) := by decide +kernel
theorem jd_lix_28 : decode cJ1_indexOf_4cfef 28 = .ok (.ireturn, 1) := by decide +kernel
theorem jd_lix_29 : decode cJ1_indexOf_4cfef 29 = .ok (.aload_n 0, 1) := by decide +kernel
theorem jd_lix_30 : decode cJ1_indexOf_4cfef 30 = .ok (.iload_n 1, 1) := by decide +kernel
theorem jd_lix_31 : decode cJ1_indexOf_4cfef 31 = .ok (.iload_n 2, 1) := by decide +kernel
theorem jd_lix_32 : decode cJ1_indexOf_4cfef 32 = .ok (.iload_n 3, 1) := by decide +kernel
theorem jd_lix_33 : decode cJ1_indexOf_4cfef 33 = .ok (.invokestatic 95, 3) := by decide +kernel
theorem jd_lix_36 : decode cJ1_indexOf_4cfef 36 = .ok (.ireturn, 1) := by decide +kernel
theorem jd_lic_0 : decode cJ1_indexOfChar_4cfef 0 = .ok (.iload_n 1, 1) := by decide +kernel
theorem jd_lic_1 : decode cJ1_indexOfChar_4cfef 1 = .ok (.i2b, 1) := by decide +kernel
theorem jd_lic_2 : decode cJ1_indexOfChar_4cfef 2 = .ok (.istore 4, 2) := by decide +kernel
theorem jd_lic_4 : decode cJ1_indexOfChar_4cfef 4 = .ok (.iload_n 2, 1) := by decide +kernel
theorem jd_lic_5 : decode cJ1_indexOfChar_4cfef 5 = .ok (.istore 5, 2) := by decide +kernel
theorem jd_lic_7 : decode cJ1_indexOfChar_4cfef 7 = .ok (.iload 5, 2) := by decide +kernel
theorem jd_lic_9 : decode cJ1_indexOfChar_4cfef 9 = .ok (.iload_n 3, 1) := by decide +kernel
theorem jd_lic_10 : decode cJ1_indexOfChar_4cfef 10 = .ok (.if_icmp .ge 21, 3) := by decide +kernel
theorem jd_lic_13 : decode cJ1_indexOfChar_4cfef 13 = .ok (.aload_n 0, 1) := by decide +kernel
theorem jd_lic_14 : decode cJ1_indexOfChar_4cfef 14 = .ok (.iload 5, 2) := by decide +kernel
theorem jd_lic_16 : decode cJ1_indexOfChar_4cfef 16 = .ok (.baload, 1) := by decide +kernel
theorem jd_lic_17 : decode cJ1_indexOfChar_4cfef 17 = .ok (.iload 4, 2) := by decide +kernel
theorem jd_lic_19 : decode cJ1_indexOfChar_4cfef 19 = .ok (.if_icmp .ne 6, 3) := by decide +kernel
theorem jd_lic_22 : decode cJ1_indexOfChar_4cfef 22 = .ok (.iload 5, 2) := by decide +kernel
theorem jd_lic_24 : decode cJ1_indexOfChar_4cfef 24 = .ok (.ireturn, 1) := by decide +kernel
theorem jd_lic_25 : decode cJ1_indexOfChar_4cfef 25 = .ok (.iinc 5 1, 3) := by decide +kernel
theorem jd_lic_28 : decode cJ1_indexOfChar_4cfef 28 = .ok (.goto (-21), 3) := by decide +kernel
theorem jd_lic_31 : decode cJ1_indexOfChar_4cfef 31 = .ok (.iconst (-1), 1) := by decide +kernel
theorem jd_lic_32 : decode cJ1_indexOfChar_4cfef 32 = .ok (.ireturn, 1) := by decide +kernel
theorem jd_pci_0 : decode cJ3_checkIndex_8e157 0 = .ok (.iload_n 0, 1) := by decide +kernel
theorem jd_pci_1 : decode cJ3_checkIndex_8e157 1 = .ok (.ifCond .lt 8, 3) := by decide +kernel
theorem jd_pci_4 : decode cJ3_checkIndex_8e157 4 = .ok (.iload_n 0, 1) := by decide +kernel
theorem jd_pci_5 : decode cJ3_checkIndex_8e157 5 = .ok (.iload_n 1, 1) := by decide +kernel
theorem jd_pci_6 : decode cJ3_checkIndex_8e157 6 = .ok (.if_icmp .lt 10, 3) := by decide +kernel
theorem jd_pci_9 : decode cJ3_checkIndex_8e157 9 = .ok (.aload_n 2, 1) := by decide +kernel
theorem jd_pci_10 : decode cJ3_checkIndex_8e157 10 = .ok (.iload_n 0, 1) := by decide +kernel
theorem jd_pci_11 : decode cJ3_checkIndex_8e157 11 = .ok (.iload_n 1, 1) := by decide +kernel
theorem jd_pci_12 : decode cJ3_checkIndex_8e157 12 = .ok (.invokestatic 95, 3) := by decide +kernel
theorem jd_pci_15 : decode cJ3_checkIndex_8e157 15 = .ok (.athrow, 1) := by decide +kernel
theorem jd_pci_16 : decode cJ3_checkIndex_8e157 16 = .ok (.iload_n 0, 1) := by decide +kernel
theorem jd_pci_17 : decode cJ3_checkIndex_8e157 17 = .ok (.ireturn, 1) := by decide +kernel
