set_option maxRecDepth 100000 in
theorem fCF_0 : cfok gP 0 0 0 1 := ⟨mm_0, rfl, gm 345 (by decide +kernel), gm 159 (by decide +kernel), ⟨by decide, by decide⟩, by decide +kernel, Or.inr (Or.inl ⟨rfl, rfl, rfl, gm 344 (by decide +kernel)⟩)⟩
set_option maxRecDepth 100000 in
theorem fCF_1 : cfok gP 1 0 0 2 := ⟨mm_1, rfl, gm 884 (by decide +kernel), gm 159 (by decide +kernel), ⟨by decide, by decide⟩, by decide +kernel, Or.inr (Or.inr ⟨rfl, (RX0, TX0, 6), rfl, by decide, rfl, gm 882 (by decide +kernel), gm 883 (by decide +kernel)⟩)⟩
set_option maxRecDepth 100000 in
theorem fCF_2 : cfok gP 2 0 2 2 := ⟨mm_2, rfl, gm 995 (by decide +kernel), gm 159 (by decide +kernel), ⟨by decide, by decide⟩, by decide +kernel, Or.inr (Or.inr ⟨rfl, (RX0, TX0, 6), rfl, by decide, rfl, gm 993 (by decide +kernel), gm 994 (by decide +kernel)⟩)⟩
set_option maxRecDepth 100000 in
theorem fCF_3 : cfok gP 3 0 0 2 := ⟨mm_3, rfl, gm 1149 (by decide +kernel), gm 159 (by decide +kernel), ⟨by decide, by decide⟩, by decide +kernel, Or.inr (Or.inr ⟨rfl, (RX0, TX0, 6), rfl, by decide, rfl, gm 1147 (by decide +kernel), gm 1148 (by decide +kernel)⟩)⟩
set_option maxRecDepth 100000 in
theorem fCF_4 : cfok gP 4 0 0 2 := ⟨mm_4, rfl, gm 1153 (by decide +kernel), gm 159 (by decide +kernel), ⟨by decide, by decide⟩, by decide +kernel, Or.inr (Or.inr ⟨rfl, (RX0, TX0, 6), rfl, by decide, rfl, gm 1152 (by decide +kernel), gm 45 (by decide +kernel)⟩)⟩
set_option maxRecDepth 100000 in
theorem fCF_5 : cfok gP 5 0 0 2 := ⟨mm_5, rfl, gm 1178 (by decide +kernel), gm 159 (by decide +kernel), ⟨by decide, by decide⟩, by decide +kernel, Or.inr (Or.inr ⟨rfl, (RX0, TX0, 6), rfl, by decide, rfl, gm 1177 (by decide +kernel), gm 51 (by decide +kernel)⟩)⟩
set_option maxRecDepth 100000 in
theorem fCF_6 : cfok gP 6 0 0 2 := ⟨mm_6, rfl, gm 1157 (by decide +kernel), gm 159 (by decide +kernel), ⟨by decide, by decide⟩, by decide +kernel, Or.inr (Or.inr ⟨rfl, (RX0, TX0, 6), rfl, by decide, rfl, gm 1156 (by decide +kernel), gm 46 (by decide +kernel)⟩)⟩
set_option maxRecDepth 100000 in
theorem fCF_7 : cfok gP 7 0 1 2 := ⟨mm_7, rfl, gm 1161 (by decide +kernel), gm 159 (by decide +kernel), ⟨by decide, by decide⟩, by decide +kernel, Or.inr (Or.inr ⟨rfl, (RX0, TX0, 6), rfl, by decide, rfl, gm 1160 (by decide +kernel), gm 47 (by decide +kernel)⟩)⟩
set_option maxRecDepth 100000 in
theorem fCF_8 : cfok gP 8 0 1 2 := ⟨mm_8, rfl, gm 1165 (by decide +kernel), gm 159 (by decide +kernel), ⟨by decide, by decide⟩, by decide +kernel, Or.inr (Or.inr ⟨rfl, (RX0, TX0, 6), rfl, by decide, rfl, gm 1164 (by decide +kernel), gm 48 (by decide +kernel)⟩)⟩
set_option maxRecDepth 100000 in
theorem fCF_9 : cfok gP 9 0 2 2 := ⟨mm_9, rfl, gm 1174 (by decide +kernel), gm 159 (by decide +kernel), ⟨by decide, by decide⟩, by decide +kernel, Or.inr (Or.inr ⟨rfl, (RX0, TX0, 6), rfl, by decide, rfl, gm 1173 (by decide +kernel), gm 50 (by decide +kernel)⟩)⟩
set_option maxRecDepth 100000 in
theorem fCF_10 : cfok gP 10 0 1 2 := ⟨mm_10, rfl, gm 1169 (by decide +kernel), gm 159 (by decide +kernel), ⟨by decide, by decide⟩, by decide +kernel, Or.inr (Or.inr ⟨rfl, (RX0, TX0, 6), rfl, by decide, rfl, gm 1168 (by decide +kernel), gm 49 (by decide +kernel)⟩)⟩
set_option maxRecDepth 100000 in
theorem fCF_11 : cfok gP 11 1 0 1 := ⟨mm_11, rfl, gm 526 (by decide +kernel), gm 162 (by decide +kernel), ⟨by decide, by decide⟩, by decide +kernel, Or.inr (Or.inl ⟨rfl, rfl, rfl, gm 525 (by decide +kernel)⟩)⟩
set_option maxRecDepth 100000 in
theorem fCF_12 : cfok gP 12 1 0 2 := ⟨mm_12, rfl, gm 1007 (by decide +kernel), gm 162 (by decide +kernel), ⟨by decide, by decide⟩, by decide +kernel, Or.inr (Or.inr ⟨rfl, (RX1, TX1, 7), rfl, by decide, rfl, gm 1005 (by decide +kernel), gm 1006 (by decide +kernel)⟩)⟩
set_option maxRecDepth 100000 in
theorem fCF_13 : cfok gP 13 1 3 2 := ⟨mm_13, rfl, gm 1236 (by decide +kernel), gm 162 (by decide +kernel), ⟨by decide, by decide⟩, by decide +kernel, Or.inr (Or.inr ⟨rfl, (RX1, TX1, 7), rfl, by decide, rfl, gm 1234 (by decide +kernel), gm 1235 (by decide +kernel)⟩)⟩
set_option maxRecDepth 100000 in
theorem fCF_14 : cfok gP 14 1 2 2 := ⟨mm_14, rfl, gm 1240 (by decide +kernel), gm 162 (by decide +kernel), ⟨by decide, by decide⟩, by decide +kernel, Or.inr (Or.inr ⟨rfl, (RX1, TX1, 7), rfl, by decide, rfl, gm 1239 (by decide +kernel), gm 54 (by decide +kernel)⟩)⟩
set_option maxRecDepth 100000 in
theorem fCF_15 : cfok gP 15 1 2 0 := ⟨mm_15, rfl, gm 1247 (by decide +kernel), gm 162 (by decide +kernel), ⟨by decide, by decide⟩, by decide +kernel, Or.inl ⟨rfl, gm 1246 (by decide +kernel)⟩⟩
set_option maxRecDepth 100000 in
theorem fCF_16 : cfok gP 16 1 4 2 := ⟨mm_16, rfl, gm 1251 (by decide +kernel), gm 162 (by decide +kernel), ⟨by decide, by decide⟩, by decide +kernel, Or.inr (Or.inr ⟨rfl, (RX1, TX1, 7), rfl, by decide, rfl, gm 1250 (by decide +kernel), gm 55 (by decide +kernel)⟩)⟩
set_option maxRecDepth 100000 in
theorem fCF_17 : cfok gP 17 1 2 2 := ⟨mm_17, rfl, gm 1255 (by decide +kernel), gm 162 (by decide +kernel), ⟨by decide, by decide⟩, by decide +kernel, Or.inr (Or.inr ⟨rfl, (RX1, TX1, 7), rfl, by decide, rfl, gm 1254 (by decide +kernel), gm 56 (by decide +kernel)⟩)⟩
set_option maxRecDepth 100000 in
theorem fCF_18 : cfok gP 18 1 1 2 := ⟨mm_18, rfl, gm 1259 (by decide +kernel), gm 162 (by decide +kernel), ⟨by decide, by decide⟩, by decide +kernel, Or.inr (Or.inr ⟨rfl, (RX1, TX1, 7), rfl, by decide, rfl, gm 1258 (by decide +kernel), gm 57 (by decide +kernel)⟩)⟩
set_option maxRecDepth 100000 in
theorem fCF_19 : cfok gP 19 2 0 1 := ⟨mm_19, rfl, gm 583 (by decide +kernel), gm 164 (by decide +kernel), ⟨by decide, by decide⟩, by decide +kernel, Or.inr (Or.inl ⟨rfl, rfl, rfl, gm 582 (by decide +kernel)⟩)⟩
set_option maxRecDepth 100000 in
theorem fCF_20 : cfok gP 20 2 3 0 := ⟨mm_20, rfl, gm 1370 (by decide +kernel), gm 164 (by decide +kernel), ⟨by decide, by decide⟩, by decide +kernel, Or.inl ⟨rfl, gm 1369 (by decide +kernel)⟩⟩
set_option maxRecDepth 100000 in
theorem fCF_21 : cfok gP 21 2 2 2 := ⟨mm_21, rfl, gm 1310 (by decide +kernel), gm 164 (by decide +kernel), ⟨by decide, by decide⟩, by decide +kernel, Or.inr (Or.inr ⟨rfl, (RX2, TX2, 13), rfl, by decide, rfl, gm 1308 (by decide +kernel), gm 1309 (by decide +kernel)⟩)⟩
set_option maxRecDepth 100000 in
theorem fCF_22 : cfok gP 22 2 2 2 := ⟨mm_22, rfl, gm 1315 (by decide +kernel), gm 164 (by decide +kernel), ⟨by decide, by decide⟩, by decide +kernel, Or.inr (Or.inr ⟨rfl, (RX2, TX2, 13), rfl, by decide, rfl, gm 1314 (by decide +kernel), gm 61 (by decide +kernel)⟩)⟩
set_option maxRecDepth 100000 in
theorem fCF_23 : cfok gP 23 2 3 2 := ⟨mm_23, rfl, gm 1357 (by decide +kernel), gm 164 (by decide +kernel), ⟨by decide, by decide⟩, by decide +kernel, Or.inr (Or.inr ⟨rfl, (RX2, TX2, 13), rfl, by decide, rfl, gm 1356 (by decide +kernel), gm 66 (by decide +kernel)⟩)⟩
set_option maxRecDepth 100000 in
theorem fCF_24 : cfok gP 24 2 5 2 := ⟨mm_24, rfl, gm 1361 (by decide +kernel), gm 164 (by decide +kernel), ⟨by decide, by decide⟩, by decide +kernel, Or.inr (Or.inr ⟨rfl, (RX2, TX2, 13), rfl, by decide, rfl, gm 1360 (by decide +kernel), gm 67 (by decide +kernel)⟩)⟩
set_option maxRecDepth 100000 in
theorem fCF_25 : cfok gP 25 2 5 2 := ⟨mm_25, rfl, gm 1325 (by decide +kernel), gm 164 (by decide +kernel), ⟨by decide, by decide⟩, by decide +kernel, Or.inr (Or.inr ⟨rfl, (RX2, TX2, 13), rfl, by decide, rfl, gm 1324 (by decide +kernel), gm 63 (by decide +kernel)⟩)⟩
set_option maxRecDepth 100000 in
theorem fCF_26 : cfok gP 26 2 2 2 := ⟨mm_26, rfl, gm 1329 (by decide +kernel), gm 164 (by decide +kernel), ⟨by decide, by decide⟩, by decide +kernel, Or.inr (Or.inr ⟨rfl, (RX2, TX2, 13), rfl, by decide, rfl, gm 1328 (by decide +kernel), gm 64 (by decide +kernel)⟩)⟩
set_option maxRecDepth 100000 in
theorem fCF_27 : cfok gP 27 2 0 2 := ⟨mm_27, rfl, gm 1333 (by decide +kernel), gm 164 (by decide +kernel), ⟨by decide, by decide⟩, by decide +kernel, Or.inr (Or.inr ⟨rfl, (RX2, TX2, 13), rfl, by decide, rfl, gm 1332 (by decide +kernel), gm 65 (by decide +kernel)⟩)⟩
set_option maxRecDepth 100000 in
theorem fCF_28 : cfok gP 28 2 4 2 := ⟨mm_28, rfl, gm 1320 (by decide +kernel), gm 164 (by decide +kernel), ⟨by decide, by decide⟩, by decide +kernel, Or.inr (Or.inr ⟨rfl, (RX2, TX2, 13), rfl, by decide, rfl, gm 1319 (by decide +kernel), gm 62 (by decide +kernel)⟩)⟩
set_option maxRecDepth 100000 in
theorem fCF_29 : cfok gP 29 3 0 1 := ⟨mm_29, rfl, gm 323 (by decide +kernel), gm 158 (by decide +kernel), ⟨by decide, by decide⟩, by decide +kernel, Or.inr (Or.inl ⟨rfl, rfl, rfl, gm 322 (by decide +kernel)⟩)⟩
set_option maxRecDepth 100000 in
theorem fCF_30 : cfok gP 30 3 1 0 := ⟨mm_30, rfl, gm 851 (by decide +kernel), gm 158 (by decide +kernel), ⟨by decide, by decide⟩, by decide +kernel, Or.inl ⟨rfl, gm 850 (by decide +kernel)⟩⟩
set_option maxRecDepth 100000 in
theorem fCF_31 : cfok gP 31 3 2 2 := ⟨mm_31, rfl, gm 1228 (by decide +kernel), gm 158 (by decide +kernel), ⟨by decide, by decide⟩, by decide +kernel, Or.inr (Or.inr ⟨rfl, (RX3, TX3, 3), rfl, by decide, rfl, gm 1226 (by decide +kernel), gm 1227 (by decide +kernel)⟩)⟩
set_option maxRecDepth 100000 in
theorem fCF_32 : cfok gP 32 3 3 2 := ⟨mm_32, rfl, gm 964 (by decide +kernel), gm 158 (by decide +kernel), ⟨by decide, by decide⟩, by decide +kernel, Or.inr (Or.inr ⟨rfl, (RX3, TX3, 3), rfl, by decide, rfl, gm 962 (by decide +kernel), gm 963 (by decide +kernel)⟩)⟩
set_option maxRecDepth 100000 in
theorem fCF_33 : cfok gP 33 3 2 2 := ⟨mm_33, rfl, gm 956 (by decide +kernel), gm 158 (by decide +kernel), ⟨by decide, by decide⟩, by decide +kernel, Or.inr (Or.inr ⟨rfl, (RX3, TX3, 3), rfl, by decide, rfl, gm 954 (by decide +kernel), gm 955 (by decide +kernel)⟩)⟩
set_option maxRecDepth 100000 in
theorem fCF_34 : cfok gP 34 3 1 2 := ⟨mm_34, rfl, gm 985 (by decide +kernel), gm 158 (by decide +kernel), ⟨by decide, by decide⟩, by decide +kernel, Or.inr (Or.inr ⟨rfl, (RX3, TX3, 3), rfl, by decide, rfl, gm 983 (by decide +kernel), gm 984 (by decide +kernel)⟩)⟩
set_option maxRecDepth 100000 in
theorem fCF_35 : cfok gP 35 3 0 2 := ⟨mm_35, rfl, gm 878 (by decide +kernel), gm 158 (by decide +kernel), ⟨by decide, by decide⟩, by decide +kernel, Or.inr (Or.inr ⟨rfl, (RX3, TX3, 3), rfl, by decide, rfl, gm 876 (by decide +kernel), gm 877 (by decide +kernel)⟩)⟩
set_option maxRecDepth 100000 in
theorem fCF_36 : cfok gP 36 4 0 1 := ⟨mm_36, rfl, gm 183 (by decide +kernel), gm 150 (by decide +kernel), ⟨by decide, by decide⟩, by decide +kernel, Or.inr (Or.inl ⟨rfl, rfl, rfl, gm 182 (by decide +kernel)⟩)⟩
set_option maxRecDepth 100000 in
theorem fCF_37 : cfok gP 37 4 1 2 := ⟨mm_37, rfl, gm 820 (by decide +kernel), gm 150 (by decide +kernel), ⟨by decide, by decide⟩, by decide +kernel, Or.inr (Or.inr ⟨rfl, (RX4, TX4, 9), rfl, by decide, rfl, gm 818 (by decide +kernel), gm 819 (by decide +kernel)⟩)⟩
set_option maxRecDepth 100000 in
theorem fCF_38 : cfok gP 38 4 1 2 := ⟨mm_38, rfl, gm 909 (by decide +kernel), gm 150 (by decide +kernel), ⟨by decide, by decide⟩, by decide +kernel, Or.inr (Or.inr ⟨rfl, (RX4, TX4, 9), rfl, by decide, rfl, gm 907 (by decide +kernel), gm 908 (by decide +kernel)⟩)⟩
set_option maxRecDepth 100000 in
theorem fCF_39 : cfok gP 39 4 1 2 := ⟨mm_39, rfl, gm 836 (by decide +kernel), gm 150 (by decide +kernel), ⟨by decide, by decide⟩, by decide +kernel, Or.inr (Or.inr ⟨rfl, (RX4, TX4, 9), rfl, by decide, rfl, gm 834 (by decide +kernel), gm 835 (by decide +kernel)⟩)⟩
set_option maxRecDepth 100000 in
theorem fCF_40 : cfok gP 40 4 2 2 := ⟨mm_40, rfl, gm 722 (by decide +kernel), gm 150 (by decide +kernel), ⟨by decide, by decide⟩, by decide +kernel, Or.inr (Or.inr ⟨rfl, (RX4, TX4, 9), rfl, by decide, rfl, gm 720 (by decide +kernel), gm 721 (by decide +kernel)⟩)⟩
set_option maxRecDepth 100000 in
theorem fCF_41 : cfok gP 41 4 3 2 := ⟨mm_41, rfl, gm 744 (by decide +kernel), gm 150 (by decide +kernel), ⟨by decide, by decide⟩, by decide +kernel, Or.inr (Or.inr ⟨rfl, (RX4, TX4, 9), rfl, by decide, rfl, gm 743 (by decide +kernel), gm 4 (by decide +kernel)⟩)⟩
set_option maxRecDepth 100000 in
theorem fCF_42 : cfok gP 42 4 3 0 := ⟨mm_42, rfl, gm 725 (by decide +kernel), gm 150 (by decide +kernel), ⟨by decide, by decide⟩, by decide +kernel, Or.inl ⟨rfl, gm 724 (by decide +kernel)⟩⟩
set_option maxRecDepth 100000 in
theorem fCF_43 : cfok gP 43 4 3 2 := ⟨mm_43, rfl, gm 729 (by decide +kernel), gm 150 (by decide +kernel), ⟨by decide, by decide⟩, by decide +kernel, Or.inr (Or.inr ⟨rfl, (RX4, TX4, 9), rfl, by decide, rfl, gm 728 (by decide +kernel), gm 1 (by decide +kernel)⟩)⟩
set_option maxRecDepth 100000 in
theorem fCF_44 : cfok gP 44 4 1 0 := ⟨mm_44, rfl, gm 732 (by decide +kernel), gm 150 (by decide +kernel), ⟨by decide, by decide⟩, by decide +kernel, Or.inl ⟨rfl, gm 731 (by decide +kernel)⟩⟩
set_option maxRecDepth 100000 in
theorem fCF_45 : cfok gP 45 4 1 0 := ⟨mm_45, rfl, gm 747 (by decide +kernel), gm 150 (by decide +kernel), ⟨by decide, by decide⟩, by decide +kernel, Or.inl ⟨rfl, gm 746 (by decide +kernel)⟩⟩
set_option maxRecDepth 100000 in
theorem fCF_46 : cfok gP 46 4 3 2 := ⟨mm_46, rfl, gm 736 (by decide +kernel), gm 150 (by decide +kernel), ⟨by decide, by decide⟩, by decide +kernel, Or.inr (Or.inr ⟨rfl, (RX4, TX4, 9), rfl, by decide, rfl, gm 735 (by decide +kernel), gm 2 (by decide +kernel)⟩)⟩
set_option maxRecDepth 100000 in
theorem fCF_47 : cfok gP 47 4 1 2 := ⟨mm_47, rfl, gm 740 (by decide +kernel), gm 150 (by decide +kernel), ⟨by decide, by decide⟩, by decide +kernel, Or.inr (Or.inr ⟨rfl, (RX4, TX4, 9), rfl, by decide, rfl, gm 739 (by decide +kernel), gm 3 (by decide +kernel)⟩)⟩
set_option maxRecDepth 100000 in
theorem fCF_48 : cfok gP 48 4 3 2 := ⟨mm_48, rfl, gm 751 (by decide +kernel), gm 150 (by decide +kernel), ⟨by decide, by decide⟩, by decide +kernel, Or.inr (Or.inr ⟨rfl, (RX4, TX4, 9), rfl, by decide, rfl, gm 750 (by decide +kernel), gm 5 (by decide +kernel)⟩)⟩
set_option maxRecDepth 100000 in
theorem fCF_49 : cfok gP 49 4 0 2 := ⟨mm_49, rfl, gm 815 (by decide +kernel), gm 150 (by decide +kernel), ⟨by decide, by decide⟩, by decide +kernel, Or.inr (Or.inr ⟨rfl, (RX4, TX4, 9), rfl, by decide, rfl, gm 813 (by decide +kernel), gm 814 (by decide +kernel)⟩)⟩
set_option maxRecDepth 100000 in
theorem fCF_50 : cfok gP 50 4 1 2 := ⟨mm_50, rfl, gm 832 (by decide +kernel), gm 150 (by decide +kernel), ⟨by decide, by decide⟩, by decide +kernel, Or.inr (Or.inr ⟨rfl, (RX4, TX4, 9), rfl, by decide, rfl, gm 831 (by decide +kernel), gm 8 (by decide +kernel)⟩)⟩
set_option maxRecDepth 100000 in
theorem fCF_51 : cfok gP 51 4 1 2 := ⟨mm_51, rfl, gm 840 (by decide +kernel), gm 150 (by decide +kernel), ⟨by decide, by decide⟩, by decide +kernel, Or.inr (Or.inr ⟨rfl, (RX4, TX4, 9), rfl, by decide, rfl, gm 839 (by decide +kernel), gm 9 (by decide +kernel)⟩)⟩
set_option maxRecDepth 100000 in
theorem fCF_52 : cfok gP 52 4 2 2 := ⟨mm_52, rfl, gm 828 (by decide +kernel), gm 150 (by decide +kernel), ⟨by decide, by decide⟩, by decide +kernel, Or.inr (Or.inr ⟨rfl, (RX4, TX4, 9), rfl, by decide, rfl, gm 827 (by decide +kernel), gm 7 (by decide +kernel)⟩)⟩
set_option maxRecDepth 100000 in
theorem fCF_53 : cfok gP 53 4 0 2 := ⟨mm_53, rfl, gm 824 (by decide +kernel), gm 150 (by decide +kernel), ⟨by decide, by decide⟩, by decide +kernel, Or.inr (Or.inr ⟨rfl, (RX4, TX4, 9), rfl, by decide, rfl, gm 823 (by decide +kernel), gm 6 (by decide +kernel)⟩)⟩
set_option maxRecDepth 100000 in
theorem fCF_54 : cfok gP 54 4 0 2 := ⟨mm_54, rfl, gm 844 (by decide +kernel), gm 150 (by decide +kernel), ⟨by decide, by decide⟩, by decide +kernel, Or.inr (Or.inr ⟨rfl, (RX4, TX4, 9), rfl, by decide, rfl, gm 843 (by decide +kernel), gm 10 (by decide +kernel)⟩)⟩
set_option maxRecDepth 100000 in
theorem fCF_55 : cfok gP 55 4 0 2 := ⟨mm_55, rfl, gm 848 (by decide +kernel), gm 150 (by decide +kernel), ⟨by decide, by decide⟩, by decide +kernel, Or.inr (Or.inr ⟨rfl, (RX4, TX4, 9), rfl, by decide, rfl, gm 847 (by decide +kernel), gm 11 (by decide +kernel)⟩)⟩
set_option maxRecDepth 100000 in
theorem fCF_56 : cfok gP 56 4 0 2 := ⟨mm_56, rfl, gm 855 (by decide +kernel), gm 150 (by decide +kernel), ⟨by decide, by decide⟩, by decide +kernel, Or.inr (Or.inr ⟨rfl, (RX4, TX4, 9), rfl, by decide, rfl, gm 854 (by decide +kernel), gm 12 (by decide +kernel)⟩)⟩
set_option maxRecDepth 100000 in
theorem fCF_57 : cfok gP 57 4 0 2 := ⟨mm_57, rfl, gm 859 (by decide +kernel), gm 150 (by decide +kernel), ⟨by decide, by decide⟩, by decide +kernel, Or.inr (Or.inr ⟨rfl, (RX4, TX4, 9), rfl, by decide, rfl, gm 858 (by decide +kernel), gm 13 (by decide +kernel)⟩)⟩
set_option maxRecDepth 100000 in
theorem fCF_58 : cfok gP 58 4 0 2 := ⟨mm_58, rfl, gm 863 (by decide +kernel), gm 150 (by decide +kernel), ⟨by decide, by decide⟩, by decide +kernel, Or.inr (Or.inr ⟨rfl, (RX4, TX4, 9), rfl, by decide, rfl, gm 862 (by decide +kernel), gm 14 (by decide +kernel)⟩)⟩
set_option maxRecDepth 100000 in
theorem fCF_59 : cfok gP 59 4 1 0 := ⟨mm_59, rfl, gm 866 (by decide +kernel), gm 150 (by decide +kernel), ⟨by decide, by decide⟩, by decide +kernel, Or.inl ⟨rfl, gm 865 (by decide +kernel)⟩⟩
set_option maxRecDepth 100000 in
theorem fCF_60 : cfok gP 60 5 0 1 := ⟨mm_60, rfl, gm 554 (by decide +kernel), gm 163 (by decide +kernel), ⟨by decide, by decide⟩, by decide +kernel, Or.inr (Or.inl ⟨rfl, rfl, rfl, gm 553 (by decide +kernel)⟩)⟩
set_option maxRecDepth 100000 in
theorem fCF_61 : cfok gP 61 5 2 2 := ⟨mm_61, rfl, gm 1387 (by decide +kernel), gm 163 (by decide +kernel), ⟨by decide, by decide⟩, by decide +kernel, Or.inr (Or.inr ⟨rfl, (RX5, TX5, 7), rfl, by decide, rfl, gm 1385 (by decide +kernel), gm 1386 (by decide +kernel)⟩)⟩
set_option maxRecDepth 100000 in
theorem fCF_62 : cfok gP 62 5 3 2 := ⟨mm_62, rfl, gm 1392 (by decide +kernel), gm 163 (by decide +kernel), ⟨by decide, by decide⟩, by decide +kernel, Or.inr (Or.inr ⟨rfl, (RX5, TX5, 7), rfl, by decide, rfl, gm 1391 (by decide +kernel), gm 69 (by decide +kernel)⟩)⟩
set_option maxRecDepth 100000 in
theorem fCF_63 : cfok gP 63 5 2 2 := ⟨mm_63, rfl, gm 1397 (by decide +kernel), gm 163 (by decide +kernel), ⟨by decide, by decide⟩, by decide +kernel, Or.inr (Or.inr ⟨rfl, (RX5, TX5, 7), rfl, by decide, rfl, gm 1396 (by decide +kernel), gm 70 (by decide +kernel)⟩)⟩
set_option maxRecDepth 100000 in
theorem fCF_64 : cfok gP 64 5 2 2 := ⟨mm_64, rfl, gm 1410 (by decide +kernel), gm 163 (by decide +kernel), ⟨by decide, by decide⟩, by decide +kernel, Or.inr (Or.inr ⟨rfl, (RX5, TX5, 7), rfl, by decide, rfl, gm 1408 (by decide +kernel), gm 1409 (by decide +kernel)⟩)⟩
set_option maxRecDepth 100000 in
theorem fCF_65 : cfok gP 65 5 3 2 := ⟨mm_65, rfl, gm 1405 (by decide +kernel), gm 163 (by decide +kernel), ⟨by decide, by decide⟩, by decide +kernel, Or.inr (Or.inr ⟨rfl, (RX5, TX5, 7), rfl, by decide, rfl, gm 1403 (by decide +kernel), gm 1404 (by decide +kernel)⟩)⟩
set_option maxRecDepth 100000 in
theorem fCF_66 : cfok gP 66 5 2 2 := ⟨mm_66, rfl, gm 1401 (by decide +kernel), gm 163 (by decide +kernel), ⟨by decide, by decide⟩, by decide +kernel, Or.inr (Or.inr ⟨rfl, (RX5, TX5, 7), rfl, by decide, rfl, gm 1399 (by decide +kernel), gm 1400 (by decide +kernel)⟩)⟩
set_option maxRecDepth 100000 in
theorem fCF_67 : cfok gP 67 5 2 2 := ⟨mm_67, rfl, gm 1414 (by decide +kernel), gm 163 (by decide +kernel), ⟨by decide, by decide⟩, by decide +kernel, Or.inr (Or.inr ⟨rfl, (RX5, TX5, 7), rfl, by decide, rfl, gm 1412 (by decide +kernel), gm 1413 (by decide +kernel)⟩)⟩
set_option maxRecDepth 100000 in
theorem fCF_68 : cfok gP 68 5 2 2 := ⟨mm_68, rfl, gm 1426 (by decide +kernel), gm 163 (by decide +kernel), ⟨by decide, by decide⟩, by decide +kernel, Or.inr (Or.inr ⟨rfl, (RX5, TX5, 7), rfl, by decide, rfl, gm 1424 (by decide +kernel), gm 1425 (by decide +kernel)⟩)⟩
set_option maxRecDepth 100000 in
theorem fCF_69 : cfok gP 69 5 1 2 := ⟨mm_69, rfl, gm 1422 (by decide +kernel), gm 163 (by decide +kernel), ⟨by decide, by decide⟩, by decide +kernel, Or.inr (Or.inr ⟨rfl, (RX5, TX5, 7), rfl, by decide, rfl, gm 1420 (by decide +kernel), gm 1421 (by decide +kernel)⟩)⟩
set_option maxRecDepth 100000 in
theorem fCF_70 : cfok gP 70 5 2 2 := ⟨mm_70, rfl, gm 1438 (by decide +kernel), gm 163 (by decide +kernel), ⟨by decide, by decide⟩, by decide +kernel, Or.inr (Or.inr ⟨rfl, (RX5, TX5, 7), rfl, by decide, rfl, gm 1436 (by decide +kernel), gm 1437 (by decide +kernel)⟩)⟩
set_option maxRecDepth 100000 in
theorem fCF_71 : cfok gP 71 5 3 2 := ⟨mm_71, rfl, gm 1446 (by decide +kernel), gm 163 (by decide +kernel), ⟨by decide, by decide⟩, by decide +kernel, Or.inr (Or.inr ⟨rfl, (RX5, TX5, 7), rfl, by decide, rfl, gm 1444 (by decide +kernel), gm 1445 (by decide +kernel)⟩)⟩
set_option maxRecDepth 100000 in
theorem fCF_72 : cfok gP 72 6 0 1 := ⟨mm_72, rfl, gm 461 (by decide +kernel), gm 160 (by decide +kernel), ⟨by decide, by decide⟩, by decide +kernel, Or.inr (Or.inl ⟨rfl, rfl, rfl, gm 460 (by decide +kernel)⟩)⟩
set_option maxRecDepth 100000 in
theorem fCF_73 : cfok gP 73 6 1 2 := ⟨mm_73, rfl, gm 632 (by decide +kernel), gm 160 (by decide +kernel), ⟨by decide, by decide⟩, by decide +kernel, Or.inr (Or.inr ⟨rfl, (RX6, TX6, 9), rfl, by decide, rfl, gm 630 (by decide +kernel), gm 631 (by decide +kernel)⟩)⟩
set_option maxRecDepth 100000 in
theorem fCF_74 : cfok gP 74 6 1 2 := ⟨mm_74, rfl, gm 1125 (by decide +kernel), gm 160 (by decide +kernel), ⟨by decide, by decide⟩, by decide +kernel, Or.inr (Or.inr ⟨rfl, (RX6, TX6, 9), rfl, by decide, rfl, gm 1123 (by decide +kernel), gm 1124 (by decide +kernel)⟩)⟩
set_option maxRecDepth 100000 in
theorem fCF_75 : cfok gP 75 6 1 2 := ⟨mm_75, rfl, gm 1048 (by decide +kernel), gm 160 (by decide +kernel), ⟨by decide, by decide⟩, by decide +kernel, Or.inr (Or.inr ⟨rfl, (RX6, TX6, 9), rfl, by decide, rfl, gm 1046 (by decide +kernel), gm 1047 (by decide +kernel)⟩)⟩
set_option maxRecDepth 100000 in
theorem fCF_76 : cfok gP 76 6 2 2 := ⟨mm_76, rfl, gm 1027 (by decide +kernel), gm 160 (by decide +kernel), ⟨by decide, by decide⟩, by decide +kernel, Or.inr (Or.inr ⟨rfl, (RX6, TX6, 9), rfl, by decide, rfl, gm 1025 (by decide +kernel), gm 1026 (by decide +kernel)⟩)⟩
set_option maxRecDepth 100000 in
theorem fCF_77 : cfok gP 77 6 2 2 := ⟨mm_77, rfl, gm 1138 (by decide +kernel), gm 160 (by decide +kernel), ⟨by decide, by decide⟩, by decide +kernel, Or.inr (Or.inr ⟨rfl, (RX6, TX6, 9), rfl, by decide, rfl, gm 1136 (by decide +kernel), gm 1137 (by decide +kernel)⟩)⟩
set_option maxRecDepth 100000 in
theorem fCF_78 : cfok gP 78 6 1 2 := ⟨mm_78, rfl, gm 1491 (by decide +kernel), gm 160 (by decide +kernel), ⟨by decide, by decide⟩, by decide +kernel, Or.inr (Or.inr ⟨rfl, (RX6, TX6, 9), rfl, by decide, rfl, gm 1489 (by decide +kernel), gm 1490 (by decide +kernel)⟩)⟩
set_option maxRecDepth 100000 in
theorem fCF_79 : cfok gP 79 6 2 2 := ⟨mm_79, rfl, gm 1200 (by decide +kernel), gm 160 (by decide +kernel), ⟨by decide, by decide⟩, by decide +kernel, Or.inr (Or.inr ⟨rfl, (RX6, TX6, 9), rfl, by decide, rfl, gm 1198 (by decide +kernel), gm 1199 (by decide +kernel)⟩)⟩
set_option maxRecDepth 100000 in
theorem fCF_80 : cfok gP 80 6 1 2 := ⟨mm_80, rfl, gm 1204 (by decide +kernel), gm 160 (by decide +kernel), ⟨by decide, by decide⟩, by decide +kernel, Or.inr (Or.inr ⟨rfl, (RX6, TX6, 9), rfl, by decide, rfl, gm 1202 (by decide +kernel), gm 1203 (by decide +kernel)⟩)⟩
set_option maxRecDepth 100000 in
theorem fCF_81 : cfok gP 81 6 1 2 := ⟨mm_81, rfl, gm 1216 (by decide +kernel), gm 160 (by decide +kernel), ⟨by decide, by decide⟩, by decide +kernel, Or.inr (Or.inr ⟨rfl, (RX6, TX6, 9), rfl, by decide, rfl, gm 1215 (by decide +kernel), gm 53 (by decide +kernel)⟩)⟩
set_option maxRecDepth 100000 in
theorem fCF_82 : cfok gP 82 6 3 0 := ⟨mm_82, rfl, gm 1207 (by decide +kernel), gm 160 (by decide +kernel), ⟨by decide, by decide⟩, by decide +kernel, Or.inl ⟨rfl, gm 1206 (by decide +kernel)⟩⟩
set_option maxRecDepth 100000 in
theorem fCF_83 : cfok gP 83 6 2 0 := ⟨mm_83, rfl, gm 1210 (by decide +kernel), gm 160 (by decide +kernel), ⟨by decide, by decide⟩, by decide +kernel, Or.inl ⟨rfl, gm 1209 (by decide +kernel)⟩⟩
set_option maxRecDepth 100000 in
theorem fCF_84 : cfok gP 84 7 0 1 := ⟨mm_84, rfl, gm 296 (by decide +kernel), gm 157 (by decide +kernel), ⟨by decide, by decide⟩, by decide +kernel, Or.inr (Or.inl ⟨rfl, rfl, rfl, gm 295 (by decide +kernel)⟩)⟩
set_option maxRecDepth 100000 in
theorem fCF_85 : cfok gP 85 7 4 2 := ⟨mm_85, rfl, gm 948 (by decide +kernel), gm 157 (by decide +kernel), ⟨by decide, by decide⟩, by decide +kernel, Or.inr (Or.inr ⟨rfl, (RX7, TX7, 5), rfl, by decide, rfl, gm 946 (by decide +kernel), gm 947 (by decide +kernel)⟩)⟩
set_option maxRecDepth 100000 in
theorem fCF_86 : cfok gP 86 7 2 2 := ⟨mm_86, rfl, gm 1052 (by decide +kernel), gm 157 (by decide +kernel), ⟨by decide, by decide⟩, by decide +kernel, Or.inr (Or.inr ⟨rfl, (RX7, TX7, 5), rfl, by decide, rfl, gm 1050 (by decide +kernel), gm 1051 (by decide +kernel)⟩)⟩
set_option maxRecDepth 100000 in
theorem fCF_87 : cfok gP 87 7 2 0 := ⟨mm_87, rfl, gm 1055 (by decide +kernel), gm 157 (by decide +kernel), ⟨by decide, by decide⟩, by decide +kernel, Or.inl ⟨rfl, gm 1054 (by decide +kernel)⟩⟩
set_option maxRecDepth 100000 in
theorem fCF_88 : cfok gP 88 8 1 1 := ⟨mm_88, rfl, gm 270 (by decide +kernel), gm 155 (by decide +kernel), ⟨by decide, by decide⟩, by decide +kernel, Or.inr (Or.inl ⟨rfl, rfl, rfl, gm 269 (by decide +kernel)⟩)⟩
set_option maxRecDepth 100000 in
theorem fCF_89 : cfok gP 89 8 1 2 := ⟨mm_89, rfl, gm 870 (by decide +kernel), gm 155 (by decide +kernel), ⟨by decide, by decide⟩, by decide +kernel, Or.inr (Or.inr ⟨rfl, (RX8, TX8, 4), rfl, by decide, rfl, gm 868 (by decide +kernel), gm 869 (by decide +kernel)⟩)⟩
set_option maxRecDepth 100000 in
theorem fCF_90 : cfok gP 90 8 0 2 := ⟨mm_90, rfl, gm 888 (by decide +kernel), gm 155 (by decide +kernel), ⟨by decide, by decide⟩, by decide +kernel, Or.inr (Or.inr ⟨rfl, (RX8, TX8, 4), rfl, by decide, rfl, gm 887 (by decide +kernel), gm 15 (by decide +kernel)⟩)⟩
set_option maxRecDepth 100000 in
theorem fCF_91 : cfok gP 91 8 0 2 := ⟨mm_91, rfl, gm 940 (by decide +kernel), gm 155 (by decide +kernel), ⟨by decide, by decide⟩, by decide +kernel, Or.inr (Or.inr ⟨rfl, (RX8, TX8, 4), rfl, by decide, rfl, gm 939 (by decide +kernel), gm 24 (by decide +kernel)⟩)⟩
set_option maxRecDepth 100000 in
theorem fCF_92 : cfok gP 92 8 1 2 := ⟨mm_92, rfl, gm 916 (by decide +kernel), gm 155 (by decide +kernel), ⟨by decide, by decide⟩, by decide +kernel, Or.inr (Or.inr ⟨rfl, (RX8, TX8, 4), rfl, by decide, rfl, gm 915 (by decide +kernel), gm 20 (by decide +kernel)⟩)⟩
set_option maxRecDepth 100000 in
theorem fCF_93 : cfok gP 93 8 0 2 := ⟨mm_93, rfl, gm 905 (by decide +kernel), gm 155 (by decide +kernel), ⟨by decide, by decide⟩, by decide +kernel, Or.inr (Or.inr ⟨rfl, (RX8, TX8, 4), rfl, by decide, rfl, gm 904 (by decide +kernel), gm 19 (by decide +kernel)⟩)⟩
set_option maxRecDepth 100000 in
theorem fCF_94 : cfok gP 94 8 0 2 := ⟨mm_94, rfl, gm 901 (by decide +kernel), gm 155 (by decide +kernel), ⟨by decide, by decide⟩, by decide +kernel, Or.inr (Or.inr ⟨rfl, (RX8, TX8, 4), rfl, by decide, rfl, gm 900 (by decide +kernel), gm 18 (by decide +kernel)⟩)⟩
set_option maxRecDepth 100000 in
theorem fCF_95 : cfok gP 95 8 2 2 := ⟨mm_95, rfl, gm 960 (by decide +kernel), gm 155 (by decide +kernel), ⟨by decide, by decide⟩, by decide +kernel, Or.inr (Or.inr ⟨rfl, (RX8, TX8, 4), rfl, by decide, rfl, gm 959 (by decide +kernel), gm 27 (by decide +kernel)⟩)⟩
set_option maxRecDepth 100000 in
theorem fCF_96 : cfok gP 96 8 1 2 := ⟨mm_96, rfl, gm 893 (by decide +kernel), gm 155 (by decide +kernel), ⟨by decide, by decide⟩, by decide +kernel, Or.inr (Or.inr ⟨rfl, (RX8, TX8, 4), rfl, by decide, rfl, gm 892 (by decide +kernel), gm 16 (by decide +kernel)⟩)⟩
set_option maxRecDepth 100000 in
theorem fCF_97 : cfok gP 97 8 1 2 := ⟨mm_97, rfl, gm 897 (by decide +kernel), gm 155 (by decide +kernel), ⟨by decide, by decide⟩, by decide +kernel, Or.inr (Or.inr ⟨rfl, (RX8, TX8, 4), rfl, by decide, rfl, gm 896 (by decide +kernel), gm 17 (by decide +kernel)⟩)⟩
set_option maxRecDepth 100000 in
theorem fCF_98 : cfok gP 98 8 0 2 := ⟨mm_98, rfl, gm 932 (by decide +kernel), gm 155 (by decide +kernel), ⟨by decide, by decide⟩, by decide +kernel, Or.inr (Or.inr ⟨rfl, (RX8, TX8, 4), rfl, by decide, rfl, gm 931 (by decide +kernel), gm 22 (by decide +kernel)⟩)⟩
set_option maxRecDepth 100000 in
theorem fCF_99 : cfok gP 99 8 1 2 := ⟨mm_99, rfl, gm 928 (by decide +kernel), gm 155 (by decide +kernel), ⟨by decide, by decide⟩, by decide +kernel, Or.inr (Or.inr ⟨rfl, (RX8, TX8, 4), rfl, by decide, rfl, gm 927 (by decide +kernel), gm 21 (by decide +kernel)⟩)⟩
set_option maxRecDepth 100000 in
theorem fCF_100 : cfok gP 100 8 0 2 := ⟨mm_100, rfl, gm 936 (by decide +kernel), gm 155 (by decide +kernel), ⟨by decide, by decide⟩, by decide +kernel, Or.inr (Or.inr ⟨rfl, (RX8, TX8, 4), rfl, by decide, rfl, gm 935 (by decide +kernel), gm 23 (by decide +kernel)⟩)⟩
set_option maxRecDepth 100000 in
theorem fCF_101 : cfok gP 101 8 2 2 := ⟨mm_101, rfl, gm 944 (by decide +kernel), gm 155 (by decide +kernel), ⟨by decide, by decide⟩, by decide +kernel, Or.inr (Or.inr ⟨rfl, (RX8, TX8, 4), rfl, by decide, rfl, gm 943 (by decide +kernel), gm 25 (by decide +kernel)⟩)⟩
set_option maxRecDepth 100000 in
theorem fCF_102 : cfok gP 102 8 2 2 := ⟨mm_102, rfl, gm 952 (by decide +kernel), gm 155 (by decide +kernel), ⟨by decide, by decide⟩, by decide +kernel, Or.inr (Or.inr ⟨rfl, (RX8, TX8, 4), rfl, by decide, rfl, gm 951 (by decide +kernel), gm 26 (by decide +kernel)⟩)⟩
set_option maxRecDepth 100000 in
theorem fCF_103 : cfok gP 103 8 1 2 := ⟨mm_103, rfl, gm 969 (by decide +kernel), gm 155 (by decide +kernel), ⟨by decide, by decide⟩, by decide +kernel, Or.inr (Or.inr ⟨rfl, (RX8, TX8, 4), rfl, by decide, rfl, gm 968 (by decide +kernel), gm 28 (by decide +kernel)⟩)⟩
set_option maxRecDepth 100000 in
theorem fCF_104 : cfok gP 104 8 1 2 := ⟨mm_104, rfl, gm 973 (by decide +kernel), gm 155 (by decide +kernel), ⟨by decide, by decide⟩, by decide +kernel, Or.inr (Or.inr ⟨rfl, (RX8, TX8, 4), rfl, by decide, rfl, gm 972 (by decide +kernel), gm 29 (by decide +kernel)⟩)⟩
set_option maxRecDepth 100000 in
theorem fCF_105 : cfok gP 105 8 1 2 := ⟨mm_105, rfl, gm 977 (by decide +kernel), gm 155 (by decide +kernel), ⟨by decide, by decide⟩, by decide +kernel, Or.inr (Or.inr ⟨rfl, (RX8, TX8, 4), rfl, by decide, rfl, gm 976 (by decide +kernel), gm 30 (by decide +kernel)⟩)⟩
set_option maxRecDepth 100000 in
theorem fCF_106 : cfok gP 106 8 2 2 := ⟨mm_106, rfl, gm 981 (by decide +kernel), gm 155 (by decide +kernel), ⟨by decide, by decide⟩, by decide +kernel, Or.inr (Or.inr ⟨rfl, (RX8, TX8, 4), rfl, by decide, rfl, gm 980 (by decide +kernel), gm 31 (by decide +kernel)⟩)⟩
set_option maxRecDepth 100000 in
theorem fCF_107 : cfok gP 107 8 1 2 := ⟨mm_107, rfl, gm 990 (by decide +kernel), gm 155 (by decide +kernel), ⟨by decide, by decide⟩, by decide +kernel, Or.inr (Or.inr ⟨rfl, (RX8, TX8, 4), rfl, by decide, rfl, gm 989 (by decide +kernel), gm 32 (by decide +kernel)⟩)⟩
set_option maxRecDepth 100000 in
theorem fCF_108 : cfok gP 108 9 0 1 := ⟨mm_108, rfl, gm 290 (by decide +kernel), gm 156 (by decide +kernel), ⟨by decide, by decide⟩, by decide +kernel, Or.inr (Or.inl ⟨rfl, rfl, rfl, gm 289 (by decide +kernel)⟩)⟩
set_option maxRecDepth 100000 in
theorem fCF_109 : cfok gP 109 9 0 2 := ⟨mm_109, rfl, gm 874 (by decide +kernel), gm 156 (by decide +kernel), ⟨by decide, by decide⟩, by decide +kernel, Or.inr (Or.inr ⟨rfl, (RX9, TX9, 16), rfl, by decide, rfl, gm 872 (by decide +kernel), gm 873 (by decide +kernel)⟩)⟩
set_option maxRecDepth 100000 in
theorem fCF_110 : cfok gP 110 9 1 2 := ⟨mm_110, rfl, gm 921 (by decide +kernel), gm 156 (by decide +kernel), ⟨by decide, by decide⟩, by decide +kernel, Or.inr (Or.inr ⟨rfl, (RX9, TX9, 16), rfl, by decide, rfl, gm 919 (by decide +kernel), gm 920 (by decide +kernel)⟩)⟩
set_option maxRecDepth 100000 in
theorem fCF_111 : cfok gP 111 9 2 2 := ⟨mm_111, rfl, gm 1192 (by decide +kernel), gm 156 (by decide +kernel), ⟨by decide, by decide⟩, by decide +kernel, Or.inr (Or.inr ⟨rfl, (RX9, TX9, 16), rfl, by decide, rfl, gm 1190 (by decide +kernel), gm 1191 (by decide +kernel)⟩)⟩
set_option maxRecDepth 100000 in
theorem fCF_112 : cfok gP 112 9 1 2 := ⟨mm_112, rfl, gm 1286 (by decide +kernel), gm 156 (by decide +kernel), ⟨by decide, by decide⟩, by decide +kernel, Or.inr (Or.inr ⟨rfl, (RX9, TX9, 16), rfl, by decide, rfl, gm 1284 (by decide +kernel), gm 1285 (by decide +kernel)⟩)⟩
set_option maxRecDepth 100000 in
theorem fCF_113 : cfok gP 113 10 0 1 := ⟨mm_113, rfl, gm 507 (by decide +kernel), gm 161 (by decide +kernel), ⟨by decide, by decide⟩, by decide +kernel, Or.inr (Or.inl ⟨rfl, rfl, rfl, gm 506 (by decide +kernel)⟩)⟩
set_option maxRecDepth 100000 in
theorem fCF_114 : cfok gP 114 10 2 2 := ⟨mm_114, rfl, gm 1082 (by decide +kernel), gm 161 (by decide +kernel), ⟨by decide, by decide⟩, by decide +kernel, Or.inr (Or.inr ⟨rfl, (RX10, TX10, 3), rfl, by decide, rfl, gm 1080 (by decide +kernel), gm 1081 (by decide +kernel)⟩)⟩
set_option maxRecDepth 100000 in
theorem fCF_115 : cfok gP 115 10 3 2 := ⟨mm_115, rfl, gm 1086 (by decide +kernel), gm 161 (by decide +kernel), ⟨by decide, by decide⟩, by decide +kernel, Or.inr (Or.inr ⟨rfl, (RX10, TX10, 3), rfl, by decide, rfl, gm 1085 (by decide +kernel), gm 39 (by decide +kernel)⟩)⟩
set_option maxRecDepth 100000 in
theorem fCF_116 : cfok gP 116 10 3 2 := ⟨mm_116, rfl, gm 1096 (by decide +kernel), gm 161 (by decide +kernel), ⟨by decide, by decide⟩, by decide +kernel, Or.inr (Or.inr ⟨rfl, (RX10, TX10, 3), rfl, by decide, rfl, gm 1095 (by decide +kernel), gm 40 (by decide +kernel)⟩)⟩
set_option maxRecDepth 100000 in
theorem fCF_117 : cfok gP 117 10 1 2 := ⟨mm_117, rfl, gm 1100 (by decide +kernel), gm 161 (by decide +kernel), ⟨by decide, by decide⟩, by decide +kernel, Or.inr (Or.inr ⟨rfl, (RX10, TX10, 3), rfl, by decide, rfl, gm 1099 (by decide +kernel), gm 41 (by decide +kernel)⟩)⟩
set_option maxRecDepth 100000 in
theorem fCF_118 : cfok gP 118 10 0 2 := ⟨mm_118, rfl, gm 1272 (by decide +kernel), gm 161 (by decide +kernel), ⟨by decide, by decide⟩, by decide +kernel, Or.inr (Or.inr ⟨rfl, (RX10, TX10, 3), rfl, by decide, rfl, gm 1270 (by decide +kernel), gm 1271 (by decide +kernel)⟩)⟩
set_option maxRecDepth 100000 in
theorem fCF_119 : cfok gP 119 10 2 0 := ⟨mm_119, rfl, gm 1145 (by decide +kernel), gm 161 (by decide +kernel), ⟨by decide, by decide⟩, by decide +kernel, Or.inl ⟨rfl, gm 1144 (by decide +kernel)⟩⟩
set_option maxRecDepth 100000 in
theorem fCF_120 : cfok gP 120 11 0 1 := ⟨mm_120, rfl, gm 175 (by decide +kernel), gm 149 (by decide +kernel), ⟨by decide, by decide⟩, by decide +kernel, Or.inr (Or.inl ⟨rfl, rfl, rfl, gm 174 (by decide +kernel)⟩)⟩
set_option maxRecDepth 100000 in
theorem fCF_121 : cfok gP 121 11 1 0 := ⟨mm_121, rfl, gm 912 (by decide +kernel), gm 149 (by decide +kernel), ⟨by decide, by decide⟩, by decide +kernel, Or.inl ⟨rfl, gm 911 (by decide +kernel)⟩⟩
set_option maxRecDepth 100000 in
theorem fCF_122 : cfok gP 122 11 2 0 := ⟨mm_122, rfl, gm 924 (by decide +kernel), gm 149 (by decide +kernel), ⟨by decide, by decide⟩, by decide +kernel, Or.inl ⟨rfl, gm 923 (by decide +kernel)⟩⟩
set_option maxRecDepth 100000 in
theorem fCF_123 : cfok gP 123 11 2 0 := ⟨mm_123, rfl, gm 1089 (by decide +kernel), gm 149 (by decide +kernel), ⟨by decide, by decide⟩, by decide +kernel, Or.inl ⟨rfl, gm 1088 (by decide +kernel)⟩⟩
set_option maxRecDepth 100000 in
theorem fCF_124 : cfok gP 124 11 2 0 := ⟨mm_124, rfl, gm 1092 (by decide +kernel), gm 149 (by decide +kernel), ⟨by decide, by decide⟩, by decide +kernel, Or.inl ⟨rfl, gm 1091 (by decide +kernel)⟩⟩
set_option maxRecDepth 100000 in
theorem fCF_125 : cfok gP 125 11 2 0 := ⟨mm_125, rfl, gm 1030 (by decide +kernel), gm 149 (by decide +kernel), ⟨by decide, by decide⟩, by decide +kernel, Or.inl ⟨rfl, gm 1029 (by decide +kernel)⟩⟩
set_option maxRecDepth 100000 in
theorem fCF_126 : cfok gP 126 11 1 0 := ⟨mm_126, rfl, gm 635 (by decide +kernel), gm 149 (by decide +kernel), ⟨by decide, by decide⟩, by decide +kernel, Or.inl ⟨rfl, gm 634 (by decide +kernel)⟩⟩
set_option maxRecDepth 100000 in
theorem fCF_127 : cfok gP 127 11 5 2 := ⟨mm_127, rfl, gm 706 (by decide +kernel), gm 149 (by decide +kernel), ⟨by decide, by decide⟩, by decide +kernel, Or.inr (Or.inr ⟨rfl, (RX11, TX11, 20), rfl, by decide, rfl, gm 704 (by decide +kernel), gm 705 (by decide +kernel)⟩)⟩
set_option maxRecDepth 100000 in
theorem fCF_128 : cfok gP 128 11 1 2 := ⟨mm_128, rfl, gm 710 (by decide +kernel), gm 149 (by decide +kernel), ⟨by decide, by decide⟩, by decide +kernel, Or.inr (Or.inr ⟨rfl, (RX11, TX11, 20), rfl, by decide, rfl, gm 709 (by decide +kernel), gm 0 (by decide +kernel)⟩)⟩
set_option maxRecDepth 100000 in
theorem fCF_129 : cfok gP 129 11 1 2 := ⟨mm_129, rfl, gm 714 (by decide +kernel), gm 149 (by decide +kernel), ⟨by decide, by decide⟩, by decide +kernel, Or.inr (Or.inr ⟨rfl, (RX11, TX11, 20), rfl, by decide, rfl, gm 712 (by decide +kernel), gm 713 (by decide +kernel)⟩)⟩
set_option maxRecDepth 100000 in
theorem fCF_130 : cfok gP 130 11 0 2 := ⟨mm_130, rfl, gm 718 (by decide +kernel), gm 149 (by decide +kernel), ⟨by decide, by decide⟩, by decide +kernel, Or.inr (Or.inr ⟨rfl, (RX11, TX11, 20), rfl, by decide, rfl, gm 716 (by decide +kernel), gm 717 (by decide +kernel)⟩)⟩
set_option maxRecDepth 100000 in
theorem fCF_131 : cfok gP 131 11 0 2 := ⟨mm_131, rfl, gm 999 (by decide +kernel), gm 149 (by decide +kernel), ⟨by decide, by decide⟩, by decide +kernel, Or.inr (Or.inr ⟨rfl, (RX11, TX11, 20), rfl, by decide, rfl, gm 998 (by decide +kernel), gm 33 (by decide +kernel)⟩)⟩
set_option maxRecDepth 100000 in
theorem fCF_132 : cfok gP 132 11 0 2 := ⟨mm_132, rfl, gm 1003 (by decide +kernel), gm 149 (by decide +kernel), ⟨by decide, by decide⟩, by decide +kernel, Or.inr (Or.inr ⟨rfl, (RX11, TX11, 20), rfl, by decide, rfl, gm 1002 (by decide +kernel), gm 34 (by decide +kernel)⟩)⟩
set_option maxRecDepth 100000 in
theorem fCF_133 : cfok gP 133 11 0 2 := ⟨mm_133, rfl, gm 1011 (by decide +kernel), gm 149 (by decide +kernel), ⟨by decide, by decide⟩, by decide +kernel, Or.inr (Or.inr ⟨rfl, (RX11, TX11, 20), rfl, by decide, rfl, gm 1010 (by decide +kernel), gm 35 (by decide +kernel)⟩)⟩
set_option maxRecDepth 100000 in
theorem fCF_134 : cfok gP 134 11 0 2 := ⟨mm_134, rfl, gm 1015 (by decide +kernel), gm 149 (by decide +kernel), ⟨by decide, by decide⟩, by decide +kernel, Or.inr (Or.inr ⟨rfl, (RX11, TX11, 20), rfl, by decide, rfl, gm 1013 (by decide +kernel), gm 1014 (by decide +kernel)⟩)⟩
set_option maxRecDepth 100000 in
theorem fCF_135 : cfok gP 135 11 1 2 := ⟨mm_135, rfl, gm 1023 (by decide +kernel), gm 149 (by decide +kernel), ⟨by decide, by decide⟩, by decide +kernel, Or.inr (Or.inr ⟨rfl, (RX11, TX11, 20), rfl, by decide, rfl, gm 1022 (by decide +kernel), gm 36 (by decide +kernel)⟩)⟩
set_option maxRecDepth 100000 in
theorem fCF_136 : cfok gP 136 11 1 2 := ⟨mm_136, rfl, gm 1109 (by decide +kernel), gm 149 (by decide +kernel), ⟨by decide, by decide⟩, by decide +kernel, Or.inr (Or.inr ⟨rfl, (RX11, TX11, 20), rfl, by decide, rfl, gm 1108 (by decide +kernel), gm 42 (by decide +kernel)⟩)⟩
set_option maxRecDepth 100000 in
theorem fCF_137 : cfok gP 137 11 1 2 := ⟨mm_137, rfl, gm 1302 (by decide +kernel), gm 149 (by decide +kernel), ⟨by decide, by decide⟩, by decide +kernel, Or.inr (Or.inr ⟨rfl, (RX11, TX11, 20), rfl, by decide, rfl, gm 1301 (by decide +kernel), gm 59 (by decide +kernel)⟩)⟩
set_option maxRecDepth 100000 in
theorem fCF_138 : cfok gP 138 11 1 2 := ⟨mm_138, rfl, gm 1040 (by decide +kernel), gm 149 (by decide +kernel), ⟨by decide, by decide⟩, by decide +kernel, Or.inr (Or.inr ⟨rfl, (RX11, TX11, 20), rfl, by decide, rfl, gm 1039 (by decide +kernel), gm 37 (by decide +kernel)⟩)⟩
set_option maxRecDepth 100000 in
theorem fCF_139 : cfok gP 139 11 2 2 := ⟨mm_139, rfl, gm 1044 (by decide +kernel), gm 149 (by decide +kernel), ⟨by decide, by decide⟩, by decide +kernel, Or.inr (Or.inr ⟨rfl, (RX11, TX11, 20), rfl, by decide, rfl, gm 1043 (by decide +kernel), gm 38 (by decide +kernel)⟩)⟩
set_option maxRecDepth 100000 in
theorem fCF_140 : cfok gP 140 11 2 2 := ⟨mm_140, rfl, gm 1019 (by decide +kernel), gm 149 (by decide +kernel), ⟨by decide, by decide⟩, by decide +kernel, Or.inr (Or.inr ⟨rfl, (RX11, TX11, 20), rfl, by decide, rfl, gm 1017 (by decide +kernel), gm 1018 (by decide +kernel)⟩)⟩
set_option maxRecDepth 100000 in
theorem fCF_141 : cfok gP 141 11 2 2 := ⟨mm_141, rfl, gm 1036 (by decide +kernel), gm 149 (by decide +kernel), ⟨by decide, by decide⟩, by decide +kernel, Or.inr (Or.inr ⟨rfl, (RX11, TX11, 20), rfl, by decide, rfl, gm 1034 (by decide +kernel), gm 1035 (by decide +kernel)⟩)⟩
set_option maxRecDepth 100000 in
theorem fCF_142 : cfok gP 142 11 3 2 := ⟨mm_142, rfl, gm 1064 (by decide +kernel), gm 149 (by decide +kernel), ⟨by decide, by decide⟩, by decide +kernel, Or.inr (Or.inr ⟨rfl, (RX11, TX11, 20), rfl, by decide, rfl, gm 1062 (by decide +kernel), gm 1063 (by decide +kernel)⟩)⟩
set_option maxRecDepth 100000 in
theorem fCF_143 : cfok gP 143 11 1 2 := ⟨mm_143, rfl, gm 1074 (by decide +kernel), gm 149 (by decide +kernel), ⟨by decide, by decide⟩, by decide +kernel, Or.inr (Or.inr ⟨rfl, (RX11, TX11, 20), rfl, by decide, rfl, gm 1072 (by decide +kernel), gm 1073 (by decide +kernel)⟩)⟩
set_option maxRecDepth 100000 in
theorem fCF_144 : cfok gP 144 11 2 2 := ⟨mm_144, rfl, gm 1078 (by decide +kernel), gm 149 (by decide +kernel), ⟨by decide, by decide⟩, by decide +kernel, Or.inr (Or.inr ⟨rfl, (RX11, TX11, 20), rfl, by decide, rfl, gm 1076 (by decide +kernel), gm 1077 (by decide +kernel)⟩)⟩
set_option maxRecDepth 100000 in
theorem fCF_145 : cfok gP 145 11 1 2 := ⟨mm_145, rfl, gm 1105 (by decide +kernel), gm 149 (by decide +kernel), ⟨by decide, by decide⟩, by decide +kernel, Or.inr (Or.inr ⟨rfl, (RX11, TX11, 20), rfl, by decide, rfl, gm 1103 (by decide +kernel), gm 1104 (by decide +kernel)⟩)⟩
set_option maxRecDepth 100000 in
theorem fCF_146 : cfok gP 146 11 1 2 := ⟨mm_146, rfl, gm 1113 (by decide +kernel), gm 149 (by decide +kernel), ⟨by decide, by decide⟩, by decide +kernel, Or.inr (Or.inr ⟨rfl, (RX11, TX11, 20), rfl, by decide, rfl, gm 1111 (by decide +kernel), gm 1112 (by decide +kernel)⟩)⟩
set_option maxRecDepth 100000 in
theorem fCF_147 : cfok gP 147 11 0 2 := ⟨mm_147, rfl, gm 1121 (by decide +kernel), gm 149 (by decide +kernel), ⟨by decide, by decide⟩, by decide +kernel, Or.inr (Or.inr ⟨rfl, (RX11, TX11, 20), rfl, by decide, rfl, gm 1120 (by decide +kernel), gm 43 (by decide +kernel)⟩)⟩
set_option maxRecDepth 100000 in
theorem fCF_148 : cfok gP 148 11 1 2 := ⟨mm_148, rfl, gm 1117 (by decide +kernel), gm 149 (by decide +kernel), ⟨by decide, by decide⟩, by decide +kernel, Or.inr (Or.inr ⟨rfl, (RX11, TX11, 20), rfl, by decide, rfl, gm 1115 (by decide +kernel), gm 1116 (by decide +kernel)⟩)⟩
set_option maxRecDepth 100000 in
theorem fCF_149 : cfok gP 149 11 2 2 := ⟨mm_149, rfl, gm 1129 (by decide +kernel), gm 149 (by decide +kernel), ⟨by decide, by decide⟩, by decide +kernel, Or.inr (Or.inr ⟨rfl, (RX11, TX11, 20), rfl, by decide, rfl, gm 1127 (by decide +kernel), gm 1128 (by decide +kernel)⟩)⟩
set_option maxRecDepth 100000 in
theorem fCF_150 : cfok gP 150 11 1 2 := ⟨mm_150, rfl, gm 1133 (by decide +kernel), gm 149 (by decide +kernel), ⟨by decide, by decide⟩, by decide +kernel, Or.inr (Or.inr ⟨rfl, (RX11, TX11, 20), rfl, by decide, rfl, gm 1131 (by decide +kernel), gm 1132 (by decide +kernel)⟩)⟩
set_option maxRecDepth 100000 in
theorem fCF_151 : cfok gP 151 11 2 2 := ⟨mm_151, rfl, gm 1142 (by decide +kernel), gm 149 (by decide +kernel), ⟨by decide, by decide⟩, by decide +kernel, Or.inr (Or.inr ⟨rfl, (RX11, TX11, 20), rfl, by decide, rfl, gm 1141 (by decide +kernel), gm 44 (by decide +kernel)⟩)⟩
set_option maxRecDepth 100000 in
theorem fCF_152 : cfok gP 152 11 1 2 := ⟨mm_152, rfl, gm 1184 (by decide +kernel), gm 149 (by decide +kernel), ⟨by decide, by decide⟩, by decide +kernel, Or.inr (Or.inr ⟨rfl, (RX11, TX11, 20), rfl, by decide, rfl, gm 1182 (by decide +kernel), gm 1183 (by decide +kernel)⟩)⟩
set_option maxRecDepth 100000 in
theorem fCF_153 : cfok gP 153 11 1 2 := ⟨mm_153, rfl, gm 1188 (by decide +kernel), gm 149 (by decide +kernel), ⟨by decide, by decide⟩, by decide +kernel, Or.inr (Or.inr ⟨rfl, (RX11, TX11, 20), rfl, by decide, rfl, gm 1187 (by decide +kernel), gm 52 (by decide +kernel)⟩)⟩
set_option maxRecDepth 100000 in
theorem fCF_154 : cfok gP 154 11 1 2 := ⟨mm_154, rfl, gm 1196 (by decide +kernel), gm 149 (by decide +kernel), ⟨by decide, by decide⟩, by decide +kernel, Or.inr (Or.inr ⟨rfl, (RX11, TX11, 20), rfl, by decide, rfl, gm 1194 (by decide +kernel), gm 1195 (by decide +kernel)⟩)⟩
set_option maxRecDepth 100000 in
theorem fCF_155 : cfok gP 155 11 0 2 := ⟨mm_155, rfl, gm 1220 (by decide +kernel), gm 149 (by decide +kernel), ⟨by decide, by decide⟩, by decide +kernel, Or.inr (Or.inr ⟨rfl, (RX11, TX11, 20), rfl, by decide, rfl, gm 1218 (by decide +kernel), gm 1219 (by decide +kernel)⟩)⟩
set_option maxRecDepth 100000 in
theorem fCF_156 : cfok gP 156 11 2 2 := ⟨mm_156, rfl, gm 1224 (by decide +kernel), gm 149 (by decide +kernel), ⟨by decide, by decide⟩, by decide +kernel, Or.inr (Or.inr ⟨rfl, (RX11, TX11, 20), rfl, by decide, rfl, gm 1222 (by decide +kernel), gm 1223 (by decide +kernel)⟩)⟩
set_option maxRecDepth 100000 in
theorem fCF_157 : cfok gP 157 11 2 2 := ⟨mm_157, rfl, gm 1232 (by decide +kernel), gm 149 (by decide +kernel), ⟨by decide, by decide⟩, by decide +kernel, Or.inr (Or.inr ⟨rfl, (RX11, TX11, 20), rfl, by decide, rfl, gm 1230 (by decide +kernel), gm 1231 (by decide +kernel)⟩)⟩
set_option maxRecDepth 100000 in
theorem fCF_158 : cfok gP 158 11 0 2 := ⟨mm_158, rfl, gm 1268 (by decide +kernel), gm 149 (by decide +kernel), ⟨by decide, by decide⟩, by decide +kernel, Or.inr (Or.inr ⟨rfl, (RX11, TX11, 20), rfl, by decide, rfl, gm 1267 (by decide +kernel), gm 58 (by decide +kernel)⟩)⟩
set_option maxRecDepth 100000 in
theorem fCF_159 : cfok gP 159 11 2 2 := ⟨mm_159, rfl, gm 1264 (by decide +kernel), gm 149 (by decide +kernel), ⟨by decide, by decide⟩, by decide +kernel, Or.inr (Or.inr ⟨rfl, (RX11, TX11, 20), rfl, by decide, rfl, gm 1262 (by decide +kernel), gm 1263 (by decide +kernel)⟩)⟩
set_option maxRecDepth 100000 in
theorem fCF_160 : cfok gP 160 11 2 2 := ⟨mm_160, rfl, gm 1277 (by decide +kernel), gm 149 (by decide +kernel), ⟨by decide, by decide⟩, by decide +kernel, Or.inr (Or.inr ⟨rfl, (RX11, TX11, 20), rfl, by decide, rfl, gm 1275 (by decide +kernel), gm 1276 (by decide +kernel)⟩)⟩
set_option maxRecDepth 100000 in
theorem fCF_161 : cfok gP 161 11 1 2 := ⟨mm_161, rfl, gm 1282 (by decide +kernel), gm 149 (by decide +kernel), ⟨by decide, by decide⟩, by decide +kernel, Or.inr (Or.inr ⟨rfl, (RX11, TX11, 20), rfl, by decide, rfl, gm 1280 (by decide +kernel), gm 1281 (by decide +kernel)⟩)⟩
