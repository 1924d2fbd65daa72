/-! ===== words of the library's own text methods ===== -/
theorem am_ji_s : Cond.initialized "java/lang/String" ∈ am_T := am_T_of (am_s1 (List.mem_of_getElem? (i := 15) (by decide +kernel))) (by decide +kernel)
theorem am_ji_l : Cond.initialized "java/lang/StringLatin1" ∈ am_T := am_T_of (am_s1 (List.mem_of_getElem? (i := 16) (by decide +kernel))) (by decide +kernel)
theorem am_ji_p : Cond.initialized "jdk/internal/util/Preconditions" ∈ am_T := am_T_of (am_s1 (List.mem_of_getElem? (i := 17) (by decide +kernel))) (by decide +kernel)
set_option maxRecDepth 100000 in
theorem am_jc_len : Cond.code yJ0_length_8abf5 cJ0_length_8abf5 1 (some .int) ∈ am_T := am_T_of (am_s3 (List.mem_of_getElem? (i := 185) (by rfl))) (by rfl)
theorem am_jm_len : am_mi (Cond.code yJ0_length_8abf5 cJ0_length_8abf5 1 (some .int) :: am_T) yJ0_length_8abf5 cJ0_length_8abf5 1 (some .int) 0 := ⟨rfl, am_jc_len, am_ji_s, by decide +kernel, by decide +kernel, by decide +kernel, by decide⟩
theorem am_jt_len : Cond.instanceMethod yJ0_length_8abf5 ∈ am_T := am_T_of (am_s3 (List.mem_of_getElem? (i := 183) (by decide +kernel))) (by decide +kernel)
theorem am_js_len : Cond.selects "java/lang/String" yJ0_length_8abf5 yJ0_length_8abf5 ∈ am_T := am_T_of (am_s3 (List.mem_of_getElem? (i := 184) (by decide +kernel))) (by decide +kernel)
set_option maxRecDepth 100000 in
theorem am_jc_cha : Cond.code yJ0_charAt_5068e cJ0_charAt_5068e 2 (some .char) ∈ am_T := am_T_of (am_s3 (List.mem_of_getElem? (i := 195) (by rfl))) (by rfl)
theorem am_jm_cha : am_mi (Cond.code yJ0_charAt_5068e cJ0_charAt_5068e 2 (some .char) :: am_T) yJ0_charAt_5068e cJ0_charAt_5068e 2 (some .char) 1 := ⟨rfl, am_jc_cha, am_ji_s, by decide +kernel, by decide +kernel, by decide +kernel, by decide⟩
theorem am_jt_cha : Cond.instanceMethod yJ0_charAt_5068e ∈ am_T := am_T_of (am_s3 (List.mem_of_getElem? (i := 193) (by decide +kernel))) (by decide +kernel)
theorem am_js_cha : Cond.selects "java/lang/String" yJ0_charAt_5068e yJ0_charAt_5068e ∈ am_T := am_T_of (am_s3 (List.mem_of_getElem? (i := 194) (by decide +kernel))) (by decide +kernel)
set_option maxRecDepth 100000 in
theorem am_jc_cod : Cond.code yJ0_coder_7d493 cJ0_coder_7d493 1 (some .byte) ∈ am_T := am_T_of (am_s3 (List.mem_of_getElem? (i := 189) (by rfl))) (by rfl)
theorem am_jm_cod : am_mi (Cond.code yJ0_coder_7d493 cJ0_coder_7d493 1 (some .byte) :: am_T) yJ0_coder_7d493 cJ0_coder_7d493 1 (some .byte) 0 := ⟨rfl, am_jc_cod, am_ji_s, by decide +kernel, by decide +kernel, by decide +kernel, by decide⟩
theorem am_jt_cod : Cond.instanceMethod yJ0_coder_7d493 ∈ am_T := am_T_of (am_s3 (List.mem_of_getElem? (i := 187) (by decide +kernel))) (by decide +kernel)
theorem am_js_cod : Cond.selects "java/lang/String" yJ0_coder_7d493 yJ0_coder_7d493 ∈ am_T := am_T_of (am_s3 (List.mem_of_getElem? (i := 188) (by decide +kernel))) (by decide +kernel)
set_option maxRecDepth 100000 in
theorem am_jc_lat : Cond.code yJ0_isLatin1_aae02 cJ0_isLatin1_aae02 1 (some .boolean) ∈ am_T := am_T_of (am_s3 (List.mem_of_getElem? (i := 199) (by rfl))) (by rfl)
theorem am_jm_lat : am_mi (Cond.code yJ0_isLatin1_aae02 cJ0_isLatin1_aae02 1 (some .boolean) :: am_T) yJ0_isLatin1_aae02 cJ0_isLatin1_aae02 1 (some .boolean) 0 := ⟨rfl, am_jc_lat, am_ji_s, by decide +kernel, by decide +kernel, by decide +kernel, by decide⟩
theorem am_jt_lat : Cond.instanceMethod yJ0_isLatin1_aae02 ∈ am_T := am_T_of (am_s3 (List.mem_of_getElem? (i := 197) (by decide +kernel))) (by decide +kernel)
theorem am_js_lat : Cond.selects "java/lang/String" yJ0_isLatin1_aae02 yJ0_isLatin1_aae02 ∈ am_T := am_T_of (am_s3 (List.mem_of_getElem? (i := 198) (by decide +kernel))) (by decide +kernel)
set_option maxRecDepth 100000 in
theorem am_jc_chk : Cond.code yJ0_checkIndex_df160 cJ0_checkIndex_df160 2 none ∈ am_T := am_T_of (am_s3 (List.mem_of_getElem? (i := 205) (by rfl))) (by rfl)
theorem am_jm_chk : am_mi (Cond.code yJ0_checkIndex_df160 cJ0_checkIndex_df160 2 none :: am_T) yJ0_checkIndex_df160 cJ0_checkIndex_df160 2 none 2 := ⟨rfl, am_jc_chk, am_ji_s, by decide +kernel, by decide +kernel, by decide +kernel, by decide⟩
theorem am_jt_chk : Cond.static yJ0_checkIndex_df160 ∈ am_T := am_T_of (am_s3 (List.mem_of_getElem? (i := 204) (by decide +kernel))) (by decide +kernel)
set_option maxRecDepth 100000 in
theorem am_jc_l1c : Cond.code yJ1_charAt_3b067 cJ1_charAt_3b067 2 (some .char) ∈ am_T := am_T_of (am_s3 (List.mem_of_getElem? (i := 202) (by rfl))) (by rfl)
theorem am_jm_l1c : am_mi (Cond.code yJ1_charAt_3b067 cJ1_charAt_3b067 2 (some .char) :: am_T) yJ1_charAt_3b067 cJ1_charAt_3b067 2 (some .char) 2 := ⟨rfl, am_jc_l1c, am_ji_l, by decide +kernel, by decide +kernel, by decide +kernel, by decide⟩
theorem am_jt_l1c : Cond.static yJ1_charAt_3b067 ∈ am_T := am_T_of (am_s3 (List.mem_of_getElem? (i := 201) (by decide +kernel))) (by decide +kernel)
set_option maxRecDepth 100000 in
theorem am_jc_pre : Cond.code yJ3_checkIndex_8e157 cJ3_checkIndex_8e157 3 (some .int) ∈ am_T := am_T_of (am_s3 (List.mem_of_getElem? (i := 210) (by rfl))) (by rfl)
theorem am_jm_pre : am_mi (Cond.code yJ3_checkIndex_8e157 cJ3_checkIndex_8e157 3 (some .int) :: am_T) yJ3_checkIndex_8e157 cJ3_checkIndex_8e157 3 (some .int) 3 := ⟨rfl, am_jc_pre, am_ji_p, by decide +kernel, by decide +kernel, by decide +kernel, by decide⟩
theorem am_jt_pre : Cond.static yJ3_checkIndex_8e157 ∈ am_T := am_T_of (am_s3 (List.mem_of_getElem? (i := 209) (by decide +kernel))) (by decide +kernel)
theorem am_jl_len_cod : Cond.methodLink "java/lang/String" 335 yJ0_coder_7d493 ∈ am_T := am_T_of (am_s3 (List.mem_of_getElem? (i := 186) (by decide +kernel))) (by decide +kernel)
theorem am_jl_cha_lat : Cond.methodLink "java/lang/String" 492 yJ0_isLatin1_aae02 ∈ am_T := am_T_of (am_s3 (List.mem_of_getElem? (i := 196) (by decide +kernel))) (by decide +kernel)
theorem am_jl_cha_l1c : Cond.methodLink "java/lang/String" 495 yJ1_charAt_3b067 ∈ am_T := am_T_of (am_s3 (List.mem_of_getElem? (i := 200) (by decide +kernel))) (by decide +kernel)
theorem am_jl_l1c_chk : Cond.methodLink "java/lang/StringLatin1" 9 yJ0_checkIndex_df160 ∈ am_T := am_T_of (am_s3 (List.mem_of_getElem? (i := 203) (by decide +kernel))) (by decide +kernel)
theorem am_jl_chk_pre : Cond.methodLink "java/lang/String" 1059 yJ3_checkIndex_8e157 ∈ am_T := am_T_of (am_s3 (List.mem_of_getElem? (i := 208) (by decide +kernel))) (by decide +kernel)
theorem am_jf_val : Cond.fieldLink "java/lang/String" 9 "java/lang/String" "value" "[B" ∈ am_T := am_T_of (am_s9 (List.mem_of_getElem? (i := 0) (by decide +kernel))) (by decide +kernel)
theorem am_jf_cod : Cond.fieldLink "java/lang/String" 15 "java/lang/String" "coder" "B" ∈ am_T := am_T_of (am_s9 (List.mem_of_getElem? (i := 1) (by decide +kernel))) (by decide +kernel)
theorem am_jf_com : Cond.fieldLink "java/lang/String" 38 "java/lang/String" "COMPACT_STRINGS" "Z" ∈ am_T := am_T_of (am_s3 (List.mem_of_getElem? (i := 190) (by decide +kernel))) (by decide +kernel)
theorem am_jf_fmt : Cond.fieldLink "java/lang/String" 1053 "jdk/internal/util/Preconditions" "SIOOBE_FORMATTER" "Ljava/util/function/BiFunction;" ∈ am_T := am_T_of (am_s3 (List.mem_of_getElem? (i := 206) (by decide +kernel))) (by decide +kernel)
theorem dJ0_length_8abf5_0 : decode cJ0_length_8abf5 0 = .ok (.aload_n 0, 1) := by decide +kernel
theorem dJ0_length_8abf5_1 : decode cJ0_length_8abf5 1 = .ok (.getfield 9, 3) := by decide +kernel
theorem dJ0_length_8abf5_4 : decode cJ0_length_8abf5 4 = .ok (.arraylength, 1) := by decide +kernel
theorem dJ0_length_8abf5_5 : decode cJ0_length_8abf5 5 = .ok (.aload_n 0, 1) := by decide +kernel
theorem dJ0_length_8abf5_6 : decode cJ0_length_8abf5 6 = .ok (.invokevirtual 335, 3) := by decide +kernel
theorem dJ0_length_8abf5_9 : decode cJ0_length_8abf5 9 = .ok (.ishr, 1) := by decide +kernel
theorem dJ0_length_8abf5_10 : decode cJ0_length_8abf5 10 = .ok (.ireturn, 1) := by decide +kernel
theorem dJ0_charAt_5068e_0 : decode cJ0_charAt_5068e 0 = .ok (.aload_n 0, 1) := by decide +kernel
theorem dJ0_charAt_5068e_1 : decode cJ0_charAt_5068e 1 = .ok (.invokevirtual 492, 3) := by decide +kernel
theorem dJ0_charAt_5068e_4 : decode cJ0_charAt_5068e 4 = .ok (.ifCond .eq 12, 3) := by decide +kernel
theorem dJ0_charAt_5068e_7 : decode cJ0_charAt_5068e 7 = .ok (.aload_n 0, 1) := by decide +kernel
theorem dJ0_charAt_5068e_8 : decode cJ0_charAt_5068e 8 = .ok (.getfield 9, 3) := by decide +kernel
theorem dJ0_charAt_5068e_11 : decode cJ0_charAt_5068e 11 = .ok (.iload_n 1, 1) := by decide +kernel
theorem dJ0_charAt_5068e_12 : decode cJ0_charAt_5068e 12 = .ok (.invokestatic 495, 3) := by decide +kernel
theorem dJ0_charAt_5068e_15 : decode cJ0_charAt_5068e 15 = .ok (.ireturn, 1) := by decide +kernel
theorem dJ0_charAt_5068e_16 : decode cJ0_charAt_5068e 16 = .ok (.aload_n 0, 1) := by decide +kernel
theorem dJ0_charAt_5068e_17 : decode cJ0_charAt_5068e 17 = .ok (.getfield 9, 3) := by decide +kernel
theorem dJ0_charAt_5068e_20 : decode cJ0_charAt_5068e 20 = .ok (.iload_n 1, 1) := by decide +kernel
theorem dJ0_charAt_5068e_21 : decode cJ0_charAt_5068e 21 = .ok (.invokestatic 498, 3) := by decide +kernel
theorem dJ0_charAt_5068e_24 : decode cJ0_charAt_5068e 24 = .ok (.ireturn, 1) := by decide +kernel
theorem dJ0_coder_7d493_0 : decode cJ0_coder_7d493 0 = .ok (.getstatic 38, 3) := by decide +kernel
theorem dJ0_coder_7d493_3 : decode cJ0_coder_7d493 3 = .ok (.ifCond .eq 10, 3) := by decide +kernel
theorem dJ0_coder_7d493_6 : decode cJ0_coder_7d493 6 = .ok (.aload_n 0, 1) := by decide +kernel
theorem dJ0_coder_7d493_7 : decode cJ0_coder_7d493 7 = .ok (.getfield 15, 3) := by decide +kernel
theorem dJ0_coder_7d493_10 : decode cJ0_coder_7d493 10 = .ok (.goto 4, 3) := by decide +kernel
theorem dJ0_coder_7d493_13 : decode cJ0_coder_7d493 13 = .ok (.iconst 1, 1) := by decide +kernel
theorem dJ0_coder_7d493_14 : decode cJ0_coder_7d493 14 = .ok (.ireturn, 1) := by decide +kernel
theorem dJ0_isLatin1_aae02_0 : decode cJ0_isLatin1_aae02 0 = .ok (.getstatic 38, 3) := by decide +kernel
theorem dJ0_isLatin1_aae02_3 : decode cJ0_isLatin1_aae02 3 = .ok (.ifCond .eq 14, 3) := by decide +kernel
theorem dJ0_isLatin1_aae02_6 : decode cJ0_isLatin1_aae02 6 = .ok (.aload_n 0, 1) := by decide +kernel
theorem dJ0_isLatin1_aae02_7 : decode cJ0_isLatin1_aae02 7 = .ok (.getfield 15, 3) := by decide +kernel
theorem dJ0_isLatin1_aae02_10 : decode cJ0_isLatin1_aae02 10 = .ok (.ifCond .ne 7, 3) := by decide +kernel
theorem dJ0_isLatin1_aae02_13 : decode cJ0_isLatin1_aae02 13 = .ok (.iconst 1, 1) := by decide +kernel
theorem dJ0_isLatin1_aae02_14 : decode cJ0_isLatin1_aae02 14 = .ok (.goto 4, 3) := by decide +kernel
theorem dJ0_isLatin1_aae02_17 : decode cJ0_isLatin1_aae02 17 = .ok (.iconst 0, 1) := by decide +kernel
theorem dJ0_isLatin1_aae02_18 : decode cJ0_isLatin1_aae02 18 = .ok (.ireturn, 1) := by decide +kernel
theorem dJ0_checkIndex_df160_0 : decode cJ0_checkIndex_df160 0 = .ok (.iload_n 0, 1) := by decide +kernel
theorem dJ0_checkIndex_df160_1 : decode cJ0_checkIndex_df160 1 = .ok (.iload_n 1, 1) := by decide +kernel
theorem dJ0_checkIndex_df160_2 : decode cJ0_checkIndex_df160 2 = .ok (.getstatic 1053, 3) := by decide +kernel
theorem dJ0_checkIndex_df160_5 : decode cJ0_checkIndex_df160 5 = .ok (.invokestatic 1059, 3) := by decide +kernel
theorem dJ0_checkIndex_df160_8 : decode cJ0_checkIndex_df160 8 = .ok (.pop, 1) := by decide +kernel
theorem dJ0_checkIndex_df160_9 : decode cJ0_checkIndex_df160 9 = .ok (.return_, 1) := by decide +kernel
theorem dJ1_charAt_3b067_0 : decode cJ1_charAt_3b067 0 = .ok (.iload_n 1, 1) := by decide +kernel
theorem dJ1_charAt_3b067_1 : decode cJ1_charAt_3b067 1 = .ok (.aload_n 0, 1) := by decide +kernel
theorem dJ1_charAt_3b067_2 : decode cJ1_charAt_3b067 2 = .ok (.arraylength, 1) := by decide +kernel
theorem dJ1_charAt_3b067_3 : decode cJ1_charAt_3b067 3 = .ok (.invokestatic 9, 3) := by decide +kernel
theorem dJ1_charAt_3b067_6 : decode cJ1_charAt_3b067 6 = .ok (.aload_n 0, 1) := by decide +kernel
theorem dJ1_charAt_3b067_7 : decode cJ1_charAt_3b067 7 = .ok (.iload_n 1, 1) := by decide +kernel
theorem dJ1_charAt_3b067_8 : decode cJ1_charAt_3b067 8 = .ok (.baload, 1) := by decide +kernel
theorem dJ1_charAt_3b067_9 : decode cJ1_charAt_3b067 9 = .ok (.sipush 255, 3) := by decide +kernel
theorem dJ1_charAt_3b067_12 : decode cJ1_charAt_3b067 12 = .ok (.iand, 1) := by decide +kernel
theorem dJ1_charAt_3b067_13 : decode cJ1_charAt_3b067 13 = .ok (.i2c, 1) := by decide +kernel
theorem dJ1_charAt_3b067_14 : decode cJ1_charAt_3b067 14 = .ok (.ireturn, 1) := by decide +kernel
theorem dJ3_checkIndex_8e157_0 : decode cJ3_checkIndex_8e157 0 = .ok (.iload_n 0, 1) := by decide +kernel
theorem dJ3_checkIndex_8e157_1 : decode cJ3_checkIndex_8e157 1 = .ok (.ifCond .lt 8, 3) := by decide +kernel
theorem dJ3_checkIndex_8e157_4 : decode cJ3_checkIndex_8e157 4 = .ok (.iload_n 0, 1) := by decide +kernel
theorem dJ3_checkIndex_8e157_5 : decode cJ3_checkIndex_8e157 5 = .ok (.iload_n 1, 1) := by decide +kernel
theorem dJ3_checkIndex_8e157_6 : decode cJ3_checkIndex_8e157 6 = .ok (.if_icmp .lt 10, 3) := by decide +kernel
theorem dJ3_checkIndex_8e157_9 : decode cJ3_checkIndex_8e157 9 = .ok (.aload_n 2, 1) := by decide +kernel
theorem dJ3_checkIndex_8e157_10 : decode cJ3_checkIndex_8e157 10 = .ok (.iload_n 0, 1) := by decide +kernel
theorem dJ3_checkIndex_8e157_11 : decode cJ3_checkIndex_8e157 11 = .ok (.iload_n 1, 1) := by decide +kernel
theorem dJ3_checkIndex_8e157_12 : decode cJ3_checkIndex_8e157 12 = .ok (.invokestatic 95, 3) := by decide +kernel
theorem dJ3_checkIndex_8e157_15 : decode cJ3_checkIndex_8e157 15 = .ok (.athrow, 1) := by decide +kernel
theorem dJ3_checkIndex_8e157_16 : decode cJ3_checkIndex_8e157 16 = .ok (.iload_n 0, 1) := by decide +kernel
theorem dJ3_checkIndex_8e157_17 : decode cJ3_checkIndex_8e157 17 = .ok (.ireturn, 1) := by decide +kernel
