/-! ===== the code of each method stands in the tables, by program ===== -/
set_option maxRecDepth 100000 in
theorem am_c0 : Cond.code (am_yN 0) (am_cN 0) (am_M 0) (am_rN 0) ∈ am_T := am_T_of (am_s2 (List.mem_of_getElem? (i := 22) (by rfl))) (by rfl)
set_option maxRecDepth 100000 in
theorem am_c1 : Cond.code (am_yN 1) (am_cN 1) (am_M 1) (am_rN 1) ∈ am_T := am_T_of (am_s5 (List.mem_of_getElem? (i := 31) (by rfl))) (by rfl)
set_option maxRecDepth 100000 in
theorem am_c2 : Cond.code (am_yN 2) (am_cN 2) (am_M 2) (am_rN 2) ∈ am_T := am_T_of (am_s5 (List.mem_of_getElem? (i := 35) (by rfl))) (by rfl)
set_option maxRecDepth 100000 in
theorem am_c3 : Cond.code (am_yN 3) (am_cN 3) (am_M 3) (am_rN 3) ∈ am_T := am_T_of (am_s5 (List.mem_of_getElem? (i := 41) (by rfl))) (by rfl)
set_option maxRecDepth 100000 in
theorem am_c4 : Cond.code (am_yN 4) (am_cN 4) (am_M 4) (am_rN 4) ∈ am_T := am_T_of (am_s5 (List.mem_of_getElem? (i := 46) (by rfl))) (by rfl)
set_option maxRecDepth 100000 in
theorem am_c5 : Cond.code (am_yN 5) (am_cN 5) (am_M 5) (am_rN 5) ∈ am_T := am_T_of (am_s5 (List.mem_of_getElem? (i := 71) (by rfl))) (by rfl)
set_option maxRecDepth 100000 in
theorem am_c6 : Cond.code (am_yN 6) (am_cN 6) (am_M 6) (am_rN 6) ∈ am_T := am_T_of (am_s5 (List.mem_of_getElem? (i := 67) (by rfl))) (by rfl)
set_option maxRecDepth 100000 in
theorem am_c7 : Cond.code (am_yN 7) (am_cN 7) (am_M 7) (am_rN 7) ∈ am_T := am_T_of (am_s5 (List.mem_of_getElem? (i := 83) (by rfl))) (by rfl)
set_option maxRecDepth 100000 in
theorem am_c8 : Cond.code (am_yN 8) (am_cN 8) (am_M 8) (am_rN 8) ∈ am_T := am_T_of (am_s5 (List.mem_of_getElem? (i := 88) (by rfl))) (by rfl)
set_option maxRecDepth 100000 in
theorem am_c9 : Cond.code (am_yN 9) (am_cN 9) (am_M 9) (am_rN 9) ∈ am_T := am_T_of (am_s5 (List.mem_of_getElem? (i := 161) (by rfl))) (by rfl)
set_option maxRecDepth 100000 in
theorem am_c10 : Cond.code (am_yN 10) (am_cN 10) (am_M 10) (am_rN 10) ∈ am_T := am_T_of (am_s1 (List.mem_of_getElem? (i := 33) (by rfl))) (by rfl)
set_option maxRecDepth 100000 in
theorem am_c11 : Cond.code (am_yN 11) (am_cN 11) (am_M 11) (am_rN 11) ∈ am_T := am_T_of (am_s4 (List.mem_of_getElem? (i := 96) (by rfl))) (by rfl)
set_option maxRecDepth 100000 in
theorem am_c12 : Cond.code (am_yN 12) (am_cN 12) (am_M 12) (am_rN 12) ∈ am_T := am_T_of (am_s2 (List.mem_of_getElem? (i := 235) (by rfl))) (by rfl)
set_option maxRecDepth 100000 in
theorem am_c13 : Cond.code (am_yN 13) (am_cN 13) (am_M 13) (am_rN 13) ∈ am_T := am_T_of (am_s3 (List.mem_of_getElem? (i := 62) (by rfl))) (by rfl)
set_option maxRecDepth 100000 in
theorem am_c14 : Cond.code (am_yN 14) (am_cN 14) (am_M 14) (am_rN 14) ∈ am_T := am_T_of (am_s5 (List.mem_of_getElem? (i := 55) (by rfl))) (by rfl)
set_option maxRecDepth 100000 in
theorem am_c15 : Cond.code (am_yN 15) (am_cN 15) (am_M 15) (am_rN 15) ∈ am_T := am_T_of (am_s3 (List.mem_of_getElem? (i := 7) (by rfl))) (by rfl)
set_option maxRecDepth 100000 in
theorem am_c16 : Cond.code (am_yN 16) (am_cN 16) (am_M 16) (am_rN 16) ∈ am_T := am_T_of (am_s3 (List.mem_of_getElem? (i := 28) (by rfl))) (by rfl)
set_option maxRecDepth 100000 in
theorem am_c17 : Cond.code (am_yN 17) (am_cN 17) (am_M 17) (am_rN 17) ∈ am_T := am_T_of (am_s3 (List.mem_of_getElem? (i := 19) (by rfl))) (by rfl)
set_option maxRecDepth 100000 in
theorem am_c18 : Cond.code (am_yN 18) (am_cN 18) (am_M 18) (am_rN 18) ∈ am_T := am_T_of (am_s3 (List.mem_of_getElem? (i := 32) (by rfl))) (by rfl)
set_option maxRecDepth 100000 in
theorem am_c19 : Cond.code (am_yN 19) (am_cN 19) (am_M 19) (am_rN 19) ∈ am_T := am_T_of (am_s5 (List.mem_of_getElem? (i := 137) (by rfl))) (by rfl)
set_option maxRecDepth 100000 in
theorem am_c20 : Cond.code (am_yN 20) (am_cN 20) (am_M 20) (am_rN 20) ∈ am_T := am_T_of (am_s4 (List.mem_of_getElem? (i := 119) (by rfl))) (by rfl)
set_option maxRecDepth 100000 in
theorem am_c21 : Cond.code (am_yN 21) (am_cN 21) (am_M 21) (am_rN 21) ∈ am_T := am_T_of (am_s1 (List.mem_of_getElem? (i := 207) (by rfl))) (by rfl)
set_option maxRecDepth 100000 in
theorem am_c22 : Cond.code (am_yN 22) (am_cN 22) (am_M 22) (am_rN 22) ∈ am_T := am_T_of (am_s4 (List.mem_of_getElem? (i := 127) (by rfl))) (by rfl)
set_option maxRecDepth 100000 in
theorem am_c23 : Cond.code (am_yN 23) (am_cN 23) (am_M 23) (am_rN 23) ∈ am_T := am_T_of (am_s4 (List.mem_of_getElem? (i := 142) (by rfl))) (by rfl)
set_option maxRecDepth 100000 in
theorem am_c24 : Cond.code (am_yN 24) (am_cN 24) (am_M 24) (am_rN 24) ∈ am_T := am_T_of (am_s4 (List.mem_of_getElem? (i := 146) (by rfl))) (by rfl)
set_option maxRecDepth 100000 in
theorem am_c25 : Cond.code (am_yN 25) (am_cN 25) (am_M 25) (am_rN 25) ∈ am_T := am_T_of (am_s4 (List.mem_of_getElem? (i := 151) (by rfl))) (by rfl)
set_option maxRecDepth 100000 in
theorem am_c26 : Cond.code (am_yN 26) (am_cN 26) (am_M 26) (am_rN 26) ∈ am_T := am_T_of (am_s4 (List.mem_of_getElem? (i := 156) (by rfl))) (by rfl)
set_option maxRecDepth 100000 in
theorem am_c27 : Cond.code (am_yN 27) (am_cN 27) (am_M 27) (am_rN 27) ∈ am_T := am_T_of (am_s4 (List.mem_of_getElem? (i := 205) (by rfl))) (by rfl)
set_option maxRecDepth 100000 in
theorem am_c28 : Cond.code (am_yN 28) (am_cN 28) (am_M 28) (am_rN 28) ∈ am_T := am_T_of (am_s4 (List.mem_of_getElem? (i := 225) (by rfl))) (by rfl)
set_option maxRecDepth 100000 in
theorem am_c29 : Cond.code (am_yN 29) (am_cN 29) (am_M 29) (am_rN 29) ∈ am_T := am_T_of (am_s1 (List.mem_of_getElem? (i := 194) (by rfl))) (by rfl)
set_option maxRecDepth 100000 in
theorem am_c30 : Cond.code (am_yN 30) (am_cN 30) (am_M 30) (am_rN 30) ∈ am_T := am_T_of (am_s3 (List.mem_of_getElem? (i := 75) (by rfl))) (by rfl)
set_option maxRecDepth 100000 in
theorem am_c31 : Cond.code (am_yN 31) (am_cN 31) (am_M 31) (am_rN 31) ∈ am_T := am_T_of (am_s3 (List.mem_of_getElem? (i := 86) (by rfl))) (by rfl)
set_option maxRecDepth 100000 in
theorem am_c32 : Cond.code (am_yN 32) (am_cN 32) (am_M 32) (am_rN 32) ∈ am_T := am_T_of (am_s3 (List.mem_of_getElem? (i := 78) (by rfl))) (by rfl)
set_option maxRecDepth 100000 in
theorem am_c33 : Cond.code (am_yN 33) (am_cN 33) (am_M 33) (am_rN 33) ∈ am_T := am_T_of (am_s3 (List.mem_of_getElem? (i := 11) (by rfl))) (by rfl)
set_option maxRecDepth 100000 in
theorem am_c34 : Cond.code (am_yN 34) (am_cN 34) (am_M 34) (am_rN 34) ∈ am_T := am_T_of (am_s3 (List.mem_of_getElem? (i := 49) (by rfl))) (by rfl)
set_option maxRecDepth 100000 in
theorem am_c35 : Cond.code (am_yN 35) (am_cN 35) (am_M 35) (am_rN 35) ∈ am_T := am_T_of (am_s4 (List.mem_of_getElem? (i := 160) (by rfl))) (by rfl)
set_option maxRecDepth 100000 in
theorem am_c36 : Cond.code (am_yN 36) (am_cN 36) (am_M 36) (am_rN 36) ∈ am_T := am_T_of (am_s5 (List.mem_of_getElem? (i := 75) (by rfl))) (by rfl)
set_option maxRecDepth 100000 in
theorem am_c37 : Cond.code (am_yN 37) (am_cN 37) (am_M 37) (am_rN 37) ∈ am_T := am_T_of (am_s3 (List.mem_of_getElem? (i := 90) (by rfl))) (by rfl)
set_option maxRecDepth 100000 in
theorem am_c38 : Cond.code (am_yN 38) (am_cN 38) (am_M 38) (am_rN 38) ∈ am_T := am_T_of (am_s3 (List.mem_of_getElem? (i := 15) (by rfl))) (by rfl)
set_option maxRecDepth 100000 in
theorem am_c39 : Cond.code (am_yN 39) (am_cN 39) (am_M 39) (am_rN 39) ∈ am_T := am_T_of (am_s3 (List.mem_of_getElem? (i := 24) (by rfl))) (by rfl)
set_option maxRecDepth 100000 in
theorem am_c40 : Cond.code (am_yN 40) (am_cN 40) (am_M 40) (am_rN 40) ∈ am_T := am_T_of (am_s1 (List.mem_of_getElem? (i := 169) (by rfl))) (by rfl)
set_option maxRecDepth 100000 in
theorem am_c41 : Cond.code (am_yN 41) (am_cN 41) (am_M 41) (am_rN 41) ∈ am_T := am_T_of (am_s4 (List.mem_of_getElem? (i := 136) (by rfl))) (by rfl)
set_option maxRecDepth 100000 in
theorem am_c42 : Cond.code (am_yN 42) (am_cN 42) (am_M 42) (am_rN 42) ∈ am_T := am_T_of (am_s4 (List.mem_of_getElem? (i := 229) (by rfl))) (by rfl)
set_option maxRecDepth 100000 in
theorem am_c43 : Cond.code (am_yN 43) (am_cN 43) (am_M 43) (am_rN 43) ∈ am_T := am_T_of (am_s2 (List.mem_of_getElem? (i := 231) (by rfl))) (by rfl)
set_option maxRecDepth 100000 in
theorem am_c44 : Cond.code (am_yN 44) (am_cN 44) (am_M 44) (am_rN 44) ∈ am_T := am_T_of (am_s4 (List.mem_of_getElem? (i := 213) (by rfl))) (by rfl)
set_option maxRecDepth 100000 in
theorem am_c45 : Cond.code (am_yN 45) (am_cN 45) (am_M 45) (am_rN 45) ∈ am_T := am_T_of (am_s4 (List.mem_of_getElem? (i := 209) (by rfl))) (by rfl)
set_option maxRecDepth 100000 in
theorem am_c46 : Cond.code (am_yN 46) (am_cN 46) (am_M 46) (am_rN 46) ∈ am_T := am_T_of (am_s4 (List.mem_of_getElem? (i := 217) (by rfl))) (by rfl)
set_option maxRecDepth 100000 in
theorem am_c47 : Cond.code (am_yN 47) (am_cN 47) (am_M 47) (am_rN 47) ∈ am_T := am_T_of (am_s4 (List.mem_of_getElem? (i := 221) (by rfl))) (by rfl)
set_option maxRecDepth 100000 in
theorem am_c48 : Cond.code (am_yN 48) (am_cN 48) (am_M 48) (am_rN 48) ∈ am_T := am_T_of (am_s4 (List.mem_of_getElem? (i := 106) (by rfl))) (by rfl)
set_option maxRecDepth 100000 in
theorem am_c49 : Cond.code (am_yN 49) (am_cN 49) (am_M 49) (am_rN 49) ∈ am_T := am_T_of (am_s1 (List.mem_of_getElem? (i := 225) (by rfl))) (by rfl)
set_option maxRecDepth 100000 in
theorem am_c50 : Cond.code (am_yN 50) (am_cN 50) (am_M 50) (am_rN 50) ∈ am_T := am_T_of (am_s4 (List.mem_of_getElem? (i := 92) (by rfl))) (by rfl)
set_option maxRecDepth 100000 in
theorem am_c51 : Cond.code (am_yN 51) (am_cN 51) (am_M 51) (am_rN 51) ∈ am_T := am_T_of (am_s4 (List.mem_of_getElem? (i := 111) (by rfl))) (by rfl)
set_option maxRecDepth 100000 in
theorem am_c52 : Cond.code (am_yN 52) (am_cN 52) (am_M 52) (am_rN 52) ∈ am_T := am_T_of (am_s4 (List.mem_of_getElem? (i := 115) (by rfl))) (by rfl)
set_option maxRecDepth 100000 in
theorem am_c53 : Cond.code (am_yN 53) (am_cN 53) (am_M 53) (am_rN 53) ∈ am_T := am_T_of (am_s2 (List.mem_of_getElem? (i := 44) (by rfl))) (by rfl)
set_option maxRecDepth 100000 in
theorem am_c54 : Cond.code (am_yN 54) (am_cN 54) (am_M 54) (am_rN 54) ∈ am_T := am_T_of (am_s4 (List.mem_of_getElem? (i := 237) (by rfl))) (by rfl)
set_option maxRecDepth 100000 in
theorem am_c55 : Cond.code (am_yN 55) (am_cN 55) (am_M 55) (am_rN 55) ∈ am_T := am_T_of (am_s5 (List.mem_of_getElem? (i := 7) (by rfl))) (by rfl)
set_option maxRecDepth 100000 in
theorem am_c56 : Cond.code (am_yN 56) (am_cN 56) (am_M 56) (am_rN 56) ∈ am_T := am_T_of (am_s5 (List.mem_of_getElem? (i := 15) (by rfl))) (by rfl)
set_option maxRecDepth 100000 in
theorem am_c57 : Cond.code (am_yN 57) (am_cN 57) (am_M 57) (am_rN 57) ∈ am_T := am_T_of (am_s5 (List.mem_of_getElem? (i := 23) (by rfl))) (by rfl)
set_option maxRecDepth 100000 in
theorem am_c58 : Cond.code (am_yN 58) (am_cN 58) (am_M 58) (am_rN 58) ∈ am_T := am_T_of (am_s5 (List.mem_of_getElem? (i := 176) (by rfl))) (by rfl)
set_option maxRecDepth 100000 in
theorem am_c59 : Cond.code (am_yN 59) (am_cN 59) (am_M 59) (am_rN 59) ∈ am_T := am_T_of (am_s5 (List.mem_of_getElem? (i := 185) (by rfl))) (by rfl)
set_option maxRecDepth 100000 in
theorem am_c60 : Cond.code (am_yN 60) (am_cN 60) (am_M 60) (am_rN 60) ∈ am_T := am_T_of (am_s5 (List.mem_of_getElem? (i := 190) (by rfl))) (by rfl)
set_option maxRecDepth 100000 in
theorem am_c61 : Cond.code (am_yN 61) (am_cN 61) (am_M 61) (am_rN 61) ∈ am_T := am_T_of (am_s2 (List.mem_of_getElem? (i := 73) (by rfl))) (by rfl)
set_option maxRecDepth 100000 in
theorem am_c62 : Cond.code (am_yN 62) (am_cN 62) (am_M 62) (am_rN 62) ∈ am_T := am_T_of (am_s3 (List.mem_of_getElem? (i := 154) (by rfl))) (by rfl)
set_option maxRecDepth 100000 in
theorem am_c63 : Cond.code (am_yN 63) (am_cN 63) (am_M 63) (am_rN 63) ∈ am_T := am_T_of (am_s3 (List.mem_of_getElem? (i := 233) (by rfl))) (by rfl)
set_option maxRecDepth 100000 in
theorem am_c64 : Cond.code (am_yN 64) (am_cN 64) (am_M 64) (am_rN 64) ∈ am_T := am_T_of (am_s4 (List.mem_of_getElem? (i := 25) (by rfl))) (by rfl)
set_option maxRecDepth 100000 in
theorem am_c65 : Cond.code (am_yN 65) (am_cN 65) (am_M 65) (am_rN 65) ∈ am_T := am_T_of (am_s3 (List.mem_of_getElem? (i := 175) (by rfl))) (by rfl)
set_option maxRecDepth 100000 in
theorem am_c66 : Cond.code (am_yN 66) (am_cN 66) (am_M 66) (am_rN 66) ∈ am_T := am_T_of (am_s4 (List.mem_of_getElem? (i := 45) (by rfl))) (by rfl)
set_option maxRecDepth 100000 in
theorem am_c67 : Cond.code (am_yN 67) (am_cN 67) (am_M 67) (am_rN 67) ∈ am_T := am_T_of (am_s4 (List.mem_of_getElem? (i := 52) (by rfl))) (by rfl)
set_option maxRecDepth 100000 in
theorem am_c68 : Cond.code (am_yN 68) (am_cN 68) (am_M 68) (am_rN 68) ∈ am_T := am_T_of (am_s4 (List.mem_of_getElem? (i := 56) (by rfl))) (by rfl)
set_option maxRecDepth 100000 in
theorem am_c69 : Cond.code (am_yN 69) (am_cN 69) (am_M 69) (am_rN 69) ∈ am_T := am_T_of (am_s4 (List.mem_of_getElem? (i := 60) (by rfl))) (by rfl)
set_option maxRecDepth 100000 in
theorem am_c70 : Cond.code (am_yN 70) (am_cN 70) (am_M 70) (am_rN 70) ∈ am_T := am_T_of (am_s4 (List.mem_of_getElem? (i := 6) (by rfl))) (by rfl)
set_option maxRecDepth 100000 in
theorem am_c71 : Cond.code (am_yN 71) (am_cN 71) (am_M 71) (am_rN 71) ∈ am_T := am_T_of (am_s4 (List.mem_of_getElem? (i := 10) (by rfl))) (by rfl)
set_option maxRecDepth 100000 in
theorem am_c72 : Cond.code (am_yN 72) (am_cN 72) (am_M 72) (am_rN 72) ∈ am_T := am_T_of (am_s4 (List.mem_of_getElem? (i := 14) (by rfl))) (by rfl)
set_option maxRecDepth 100000 in
theorem am_c73 : Cond.code (am_yN 73) (am_cN 73) (am_M 73) (am_rN 73) ∈ am_T := am_T_of (am_s4 (List.mem_of_getElem? (i := 39) (by rfl))) (by rfl)
set_option maxRecDepth 100000 in
theorem am_c74 : Cond.code (am_yN 74) (am_cN 74) (am_M 74) (am_rN 74) ∈ am_T := am_T_of (am_s1 (List.mem_of_getElem? (i := 39) (by rfl))) (by rfl)
set_option maxRecDepth 100000 in
theorem am_c75 : Cond.code (am_yN 75) (am_cN 75) (am_M 75) (am_rN 75) ∈ am_T := am_T_of (am_s3 (List.mem_of_getElem? (i := 54) (by rfl))) (by rfl)
set_option maxRecDepth 100000 in
theorem am_c76 : Cond.code (am_yN 76) (am_cN 76) (am_M 76) (am_rN 76) ∈ am_T := am_T_of (am_s3 (List.mem_of_getElem? (i := 114) (by rfl))) (by rfl)
set_option maxRecDepth 100000 in
theorem am_c77 : Cond.code (am_yN 77) (am_cN 77) (am_M 77) (am_rN 77) ∈ am_T := am_T_of (am_s4 (List.mem_of_getElem? (i := 100) (by rfl))) (by rfl)
set_option maxRecDepth 100000 in
theorem am_c78 : Cond.code (am_yN 78) (am_cN 78) (am_M 78) (am_rN 78) ∈ am_T := am_T_of (am_s3 (List.mem_of_getElem? (i := 94) (by rfl))) (by rfl)
set_option maxRecDepth 100000 in
theorem am_c79 : Cond.code (am_yN 79) (am_cN 79) (am_M 79) (am_rN 79) ∈ am_T := am_T_of (am_s3 (List.mem_of_getElem? (i := 102) (by rfl))) (by rfl)
set_option maxRecDepth 100000 in
theorem am_c80 : Cond.code (am_yN 80) (am_cN 80) (am_M 80) (am_rN 80) ∈ am_T := am_T_of (am_s3 (List.mem_of_getElem? (i := 98) (by rfl))) (by rfl)
set_option maxRecDepth 100000 in
theorem am_c81 : Cond.code (am_yN 81) (am_cN 81) (am_M 81) (am_rN 81) ∈ am_T := am_T_of (am_s5 (List.mem_of_getElem? (i := 117) (by rfl))) (by rfl)
set_option maxRecDepth 100000 in
theorem am_c82 : Cond.code (am_yN 82) (am_cN 82) (am_M 82) (am_rN 82) ∈ am_T := am_T_of (am_s5 (List.mem_of_getElem? (i := 141) (by rfl))) (by rfl)
set_option maxRecDepth 100000 in
theorem am_c83 : Cond.code (am_yN 83) (am_cN 83) (am_M 83) (am_rN 83) ∈ am_T := am_T_of (am_s5 (List.mem_of_getElem? (i := 145) (by rfl))) (by rfl)
set_option maxRecDepth 100000 in
theorem am_c84 : Cond.code (am_yN 84) (am_cN 84) (am_M 84) (am_rN 84) ∈ am_T := am_T_of (am_s5 (List.mem_of_getElem? (i := 153) (by rfl))) (by rfl)
set_option maxRecDepth 100000 in
theorem am_c85 : Cond.code (am_yN 85) (am_cN 85) (am_M 85) (am_rN 85) ∈ am_T := am_T_of (am_s5 (List.mem_of_getElem? (i := 96) (by rfl))) (by rfl)
set_option maxRecDepth 100000 in
theorem am_c86 : Cond.code (am_yN 86) (am_cN 86) (am_M 86) (am_rN 86) ∈ am_T := am_T_of (am_s5 (List.mem_of_getElem? (i := 100) (by rfl))) (by rfl)
set_option maxRecDepth 100000 in
theorem am_c87 : Cond.code (am_yN 87) (am_cN 87) (am_M 87) (am_rN 87) ∈ am_T := am_T_of (am_s5 (List.mem_of_getElem? (i := 105) (by rfl))) (by rfl)
set_option maxRecDepth 100000 in
theorem am_c88 : Cond.code (am_yN 88) (am_cN 88) (am_M 88) (am_rN 88) ∈ am_T := am_T_of (am_s5 (List.mem_of_getElem? (i := 109) (by rfl))) (by rfl)
set_option maxRecDepth 100000 in
theorem am_c89 : Cond.code (am_yN 89) (am_cN 89) (am_M 89) (am_rN 89) ∈ am_T := am_T_of (am_s2 (List.mem_of_getElem? (i := 79) (by rfl))) (by rfl)
set_option maxRecDepth 100000 in
theorem am_c90 : Cond.code (am_yN 90) (am_cN 90) (am_M 90) (am_rN 90) ∈ am_T := am_T_of (am_s4 (List.mem_of_getElem? (i := 79) (by rfl))) (by rfl)
set_option maxRecDepth 100000 in
theorem am_c91 : Cond.code (am_yN 91) (am_cN 91) (am_M 91) (am_rN 91) ∈ am_T := am_T_of (am_s3 (List.mem_of_getElem? (i := 158) (by rfl))) (by rfl)
set_option maxRecDepth 100000 in
theorem am_c92 : Cond.code (am_yN 92) (am_cN 92) (am_M 92) (am_rN 92) ∈ am_T := am_T_of (am_s3 (List.mem_of_getElem? (i := 238) (by rfl))) (by rfl)
set_option maxRecDepth 100000 in
theorem am_c93 : Cond.code (am_yN 93) (am_cN 93) (am_M 93) (am_rN 93) ∈ am_T := am_T_of (am_s4 (List.mem_of_getElem? (i := 2) (by rfl))) (by rfl)
set_option maxRecDepth 100000 in
theorem am_c94 : Cond.code (am_yN 94) (am_cN 94) (am_M 94) (am_rN 94) ∈ am_T := am_T_of (am_s4 (List.mem_of_getElem? (i := 35) (by rfl))) (by rfl)
set_option maxRecDepth 100000 in
theorem am_c95 : Cond.code (am_yN 95) (am_cN 95) (am_M 95) (am_rN 95) ∈ am_T := am_T_of (am_s4 (List.mem_of_getElem? (i := 69) (by rfl))) (by rfl)
set_option maxRecDepth 100000 in
theorem am_c96 : Cond.code (am_yN 96) (am_cN 96) (am_M 96) (am_rN 96) ∈ am_T := am_T_of (am_s3 (List.mem_of_getElem? (i := 36) (by rfl))) (by rfl)
set_option maxRecDepth 100000 in
theorem am_c97 : Cond.code (am_yN 97) (am_cN 97) (am_M 97) (am_rN 97) ∈ am_T := am_T_of (am_s3 (List.mem_of_getElem? (i := 43) (by rfl))) (by rfl)
set_option maxRecDepth 100000 in
theorem am_c98 : Cond.code (am_yN 98) (am_cN 98) (am_M 98) (am_rN 98) ∈ am_T := am_T_of (am_s2 (List.mem_of_getElem? (i := 124) (by rfl))) (by rfl)
set_option maxRecDepth 100000 in
theorem am_c99 : Cond.code (am_yN 99) (am_cN 99) (am_M 99) (am_rN 99) ∈ am_T := am_T_of (am_s3 (List.mem_of_getElem? (i := 162) (by rfl))) (by rfl)
set_option maxRecDepth 100000 in
theorem am_c100 : Cond.code (am_yN 100) (am_cN 100) (am_M 100) (am_rN 100) ∈ am_T := am_T_of (am_s3 (List.mem_of_getElem? (i := 167) (by rfl))) (by rfl)
set_option maxRecDepth 100000 in
theorem am_c101 : Cond.code (am_yN 101) (am_cN 101) (am_M 101) (am_rN 101) ∈ am_T := am_T_of (am_s3 (List.mem_of_getElem? (i := 171) (by rfl))) (by rfl)
set_option maxRecDepth 100000 in
theorem am_c102 : Cond.code (am_yN 102) (am_cN 102) (am_M 102) (am_rN 102) ∈ am_T := am_T_of (am_s4 (List.mem_of_getElem? (i := 74) (by rfl))) (by rfl)
set_option maxRecDepth 100000 in
theorem am_c103 : Cond.code (am_yN 103) (am_cN 103) (am_M 103) (am_rN 103) ∈ am_T := am_T_of (am_s4 (List.mem_of_getElem? (i := 19) (by rfl))) (by rfl)
set_option maxRecDepth 100000 in
theorem am_c104 : Cond.code (am_yN 104) (am_cN 104) (am_M 104) (am_rN 104) ∈ am_T := am_T_of (am_s3 (List.mem_of_getElem? (i := 181) (by rfl))) (by rfl)
set_option maxRecDepth 100000 in
theorem am_c105 : Cond.code (am_yN 105) (am_cN 105) (am_M 105) (am_rN 105) ∈ am_T := am_T_of (am_s4 (List.mem_of_getElem? (i := 29) (by rfl))) (by rfl)
set_option maxRecDepth 100000 in
theorem am_c106 : Cond.code (am_yN 106) (am_cN 106) (am_M 106) (am_rN 106) ∈ am_T := am_T_of (am_s1 (List.mem_of_getElem? (i := 25) (by rfl))) (by rfl)
set_option maxRecDepth 100000 in
theorem am_c107 : Cond.code (am_yN 107) (am_cN 107) (am_M 107) (am_rN 107) ∈ am_T := am_T_of (am_s2 (List.mem_of_getElem? (i := 217) (by rfl))) (by rfl)
set_option maxRecDepth 100000 in
theorem am_c108 : Cond.code (am_yN 108) (am_cN 108) (am_M 108) (am_rN 108) ∈ am_T := am_T_of (am_s3 (List.mem_of_getElem? (i := 3) (by rfl))) (by rfl)
set_option maxRecDepth 100000 in
theorem am_c109 : Cond.code (am_yN 109) (am_cN 109) (am_M 109) (am_rN 109) ∈ am_T := am_T_of (am_s3 (List.mem_of_getElem? (i := 58) (by rfl))) (by rfl)
set_option maxRecDepth 100000 in
theorem am_c110 : Cond.code (am_yN 110) (am_cN 110) (am_M 110) (am_rN 110) ∈ am_T := am_T_of (am_s3 (List.mem_of_getElem? (i := 66) (by rfl))) (by rfl)
set_option maxRecDepth 100000 in
theorem am_c111 : Cond.code (am_yN 111) (am_cN 111) (am_M 111) (am_rN 111) ∈ am_T := am_T_of (am_s3 (List.mem_of_getElem? (i := 71) (by rfl))) (by rfl)
set_option maxRecDepth 100000 in
theorem am_c112 : Cond.code (am_yN 112) (am_cN 112) (am_M 112) (am_rN 112) ∈ am_T := am_T_of (am_s3 (List.mem_of_getElem? (i := 106) (by rfl))) (by rfl)
set_option maxRecDepth 100000 in
theorem am_c113 : Cond.code (am_yN 113) (am_cN 113) (am_M 113) (am_rN 113) ∈ am_T := am_T_of (am_s3 (List.mem_of_getElem? (i := 118) (by rfl))) (by rfl)
set_option maxRecDepth 100000 in
theorem am_c114 : Cond.code (am_yN 114) (am_cN 114) (am_M 114) (am_rN 114) ∈ am_T := am_T_of (am_s3 (List.mem_of_getElem? (i := 124) (by rfl))) (by rfl)
set_option maxRecDepth 100000 in
theorem am_c115 : Cond.code (am_yN 115) (am_cN 115) (am_M 115) (am_rN 115) ∈ am_T := am_T_of (am_s3 (List.mem_of_getElem? (i := 130) (by rfl))) (by rfl)
set_option maxRecDepth 100000 in
theorem am_c116 : Cond.code (am_yN 116) (am_cN 116) (am_M 116) (am_rN 116) ∈ am_T := am_T_of (am_s3 (List.mem_of_getElem? (i := 138) (by rfl))) (by rfl)
set_option maxRecDepth 100000 in
theorem am_c117 : Cond.code (am_yN 117) (am_cN 117) (am_M 117) (am_rN 117) ∈ am_T := am_T_of (am_s3 (List.mem_of_getElem? (i := 142) (by rfl))) (by rfl)
set_option maxRecDepth 100000 in
theorem am_c118 : Cond.code (am_yN 118) (am_cN 118) (am_M 118) (am_rN 118) ∈ am_T := am_T_of (am_s3 (List.mem_of_getElem? (i := 146) (by rfl))) (by rfl)
set_option maxRecDepth 100000 in
theorem am_c119 : Cond.code (am_yN 119) (am_cN 119) (am_M 119) (am_rN 119) ∈ am_T := am_T_of (am_s3 (List.mem_of_getElem? (i := 150) (by rfl))) (by rfl)
set_option maxRecDepth 100000 in
theorem am_c120 : Cond.code (am_yN 120) (am_cN 120) (am_M 120) (am_rN 120) ∈ am_T := am_T_of (am_s4 (List.mem_of_getElem? (i := 88) (by rfl))) (by rfl)
set_option maxRecDepth 100000 in
theorem am_c121 : Cond.code (am_yN 121) (am_cN 121) (am_M 121) (am_rN 121) ∈ am_T := am_T_of (am_s4 (List.mem_of_getElem? (i := 164) (by rfl))) (by rfl)
set_option maxRecDepth 100000 in
theorem am_c122 : Cond.code (am_yN 122) (am_cN 122) (am_M 122) (am_rN 122) ∈ am_T := am_T_of (am_s4 (List.mem_of_getElem? (i := 168) (by rfl))) (by rfl)
set_option maxRecDepth 100000 in
theorem am_c123 : Cond.code (am_yN 123) (am_cN 123) (am_M 123) (am_rN 123) ∈ am_T := am_T_of (am_s4 (List.mem_of_getElem? (i := 172) (by rfl))) (by rfl)
set_option maxRecDepth 100000 in
theorem am_c124 : Cond.code (am_yN 124) (am_cN 124) (am_M 124) (am_rN 124) ∈ am_T := am_T_of (am_s4 (List.mem_of_getElem? (i := 177) (by rfl))) (by rfl)
set_option maxRecDepth 100000 in
theorem am_c125 : Cond.code (am_yN 125) (am_cN 125) (am_M 125) (am_rN 125) ∈ am_T := am_T_of (am_s4 (List.mem_of_getElem? (i := 186) (by rfl))) (by rfl)
set_option maxRecDepth 100000 in
theorem am_c126 : Cond.code (am_yN 126) (am_cN 126) (am_M 126) (am_rN 126) ∈ am_T := am_T_of (am_s4 (List.mem_of_getElem? (i := 191) (by rfl))) (by rfl)
set_option maxRecDepth 100000 in
theorem am_c127 : Cond.code (am_yN 127) (am_cN 127) (am_M 127) (am_rN 127) ∈ am_T := am_T_of (am_s4 (List.mem_of_getElem? (i := 196) (by rfl))) (by rfl)
set_option maxRecDepth 100000 in
theorem am_c128 : Cond.code (am_yN 128) (am_cN 128) (am_M 128) (am_rN 128) ∈ am_T := am_T_of (am_s4 (List.mem_of_getElem? (i := 201) (by rfl))) (by rfl)
set_option maxRecDepth 100000 in
theorem am_c129 : Cond.code (am_yN 129) (am_cN 129) (am_M 129) (am_rN 129) ∈ am_T := am_T_of (am_s4 (List.mem_of_getElem? (i := 233) (by rfl))) (by rfl)
set_option maxRecDepth 100000 in
theorem am_c130 : Cond.code (am_yN 130) (am_cN 130) (am_M 130) (am_rN 130) ∈ am_T := am_T_of (am_s5 (List.mem_of_getElem? (i := 3) (by rfl))) (by rfl)
set_option maxRecDepth 100000 in
theorem am_c131 : Cond.code (am_yN 131) (am_cN 131) (am_M 131) (am_rN 131) ∈ am_T := am_T_of (am_s5 (List.mem_of_getElem? (i := 11) (by rfl))) (by rfl)
set_option maxRecDepth 100000 in
theorem am_c132 : Cond.code (am_yN 132) (am_cN 132) (am_M 132) (am_rN 132) ∈ am_T := am_T_of (am_s5 (List.mem_of_getElem? (i := 19) (by rfl))) (by rfl)
set_option maxRecDepth 100000 in
theorem am_c133 : Cond.code (am_yN 133) (am_cN 133) (am_M 133) (am_rN 133) ∈ am_T := am_T_of (am_s5 (List.mem_of_getElem? (i := 27) (by rfl))) (by rfl)
set_option maxRecDepth 100000 in
theorem am_c134 : Cond.code (am_yN 134) (am_cN 134) (am_M 134) (am_rN 134) ∈ am_T := am_T_of (am_s5 (List.mem_of_getElem? (i := 51) (by rfl))) (by rfl)
set_option maxRecDepth 100000 in
theorem am_c135 : Cond.code (am_yN 135) (am_cN 135) (am_M 135) (am_rN 135) ∈ am_T := am_T_of (am_s5 (List.mem_of_getElem? (i := 59) (by rfl))) (by rfl)
set_option maxRecDepth 100000 in
theorem am_c136 : Cond.code (am_yN 136) (am_cN 136) (am_M 136) (am_rN 136) ∈ am_T := am_T_of (am_s5 (List.mem_of_getElem? (i := 63) (by rfl))) (by rfl)
set_option maxRecDepth 100000 in
theorem am_c137 : Cond.code (am_yN 137) (am_cN 137) (am_M 137) (am_rN 137) ∈ am_T := am_T_of (am_s5 (List.mem_of_getElem? (i := 79) (by rfl))) (by rfl)
set_option maxRecDepth 100000 in
theorem am_c138 : Cond.code (am_yN 138) (am_cN 138) (am_M 138) (am_rN 138) ∈ am_T := am_T_of (am_s5 (List.mem_of_getElem? (i := 92) (by rfl))) (by rfl)
set_option maxRecDepth 100000 in
theorem am_c139 : Cond.code (am_yN 139) (am_cN 139) (am_M 139) (am_rN 139) ∈ am_T := am_T_of (am_s5 (List.mem_of_getElem? (i := 113) (by rfl))) (by rfl)
set_option maxRecDepth 100000 in
theorem am_c140 : Cond.code (am_yN 140) (am_cN 140) (am_M 140) (am_rN 140) ∈ am_T := am_T_of (am_s5 (List.mem_of_getElem? (i := 133) (by rfl))) (by rfl)
set_option maxRecDepth 100000 in
theorem am_c141 : Cond.code (am_yN 141) (am_cN 141) (am_M 141) (am_rN 141) ∈ am_T := am_T_of (am_s5 (List.mem_of_getElem? (i := 149) (by rfl))) (by rfl)
set_option maxRecDepth 100000 in
theorem am_c142 : Cond.code (am_yN 142) (am_cN 142) (am_M 142) (am_rN 142) ∈ am_T := am_T_of (am_s5 (List.mem_of_getElem? (i := 157) (by rfl))) (by rfl)
set_option maxRecDepth 100000 in
theorem am_c143 : Cond.code (am_yN 143) (am_cN 143) (am_M 143) (am_rN 143) ∈ am_T := am_T_of (am_s5 (List.mem_of_getElem? (i := 165) (by rfl))) (by rfl)
set_option maxRecDepth 100000 in
theorem am_c144 : Cond.code (am_yN 144) (am_cN 144) (am_M 144) (am_rN 144) ∈ am_T := am_T_of (am_s5 (List.mem_of_getElem? (i := 172) (by rfl))) (by rfl)
set_option maxRecDepth 100000 in
theorem am_c145 : Cond.code (am_yN 145) (am_cN 145) (am_M 145) (am_rN 145) ∈ am_T := am_T_of (am_s5 (List.mem_of_getElem? (i := 180) (by rfl))) (by rfl)
set_option maxRecDepth 100000 in
theorem am_c146 : Cond.code (am_yN 146) (am_cN 146) (am_M 146) (am_rN 146) ∈ am_T := am_T_of (am_s5 (List.mem_of_getElem? (i := 199) (by rfl))) (by rfl)
set_option maxRecDepth 100000 in
theorem am_c147 : Cond.code (am_yN 147) (am_cN 147) (am_M 147) (am_rN 147) ∈ am_T := am_T_of (am_s5 (List.mem_of_getElem? (i := 203) (by rfl))) (by rfl)
set_option maxRecDepth 100000 in
theorem am_c148 : Cond.code (am_yN 148) (am_cN 148) (am_M 148) (am_rN 148) ∈ am_T := am_T_of (am_s5 (List.mem_of_getElem? (i := 208) (by rfl))) (by rfl)
set_option maxRecDepth 100000 in
theorem am_c149 : Cond.code (am_yN 149) (am_cN 149) (am_M 149) (am_rN 149) ∈ am_T := am_T_of (am_s5 (List.mem_of_getElem? (i := 212) (by rfl))) (by rfl)
set_option maxRecDepth 100000 in
theorem am_c150 : Cond.code (am_yN 150) (am_cN 150) (am_M 150) (am_rN 150) ∈ am_T := am_T_of (am_s5 (List.mem_of_getElem? (i := 223) (by rfl))) (by rfl)
set_option maxRecDepth 100000 in
theorem am_c151 : Cond.code (am_yN 151) (am_cN 151) (am_M 151) (am_rN 151) ∈ am_T := am_T_of (am_s5 (List.mem_of_getElem? (i := 217) (by rfl))) (by rfl)
set_option maxRecDepth 100000 in
theorem am_c152 : Cond.code (am_yN 152) (am_cN 152) (am_M 152) (am_rN 152) ∈ am_T := am_T_of (am_s2 (List.mem_of_getElem? (i := 227) (by rfl))) (by rfl)
set_option maxRecDepth 100000 in
theorem am_c153 : Cond.code (am_yN 153) (am_cN 153) (am_M 153) (am_rN 153) ∈ am_T := am_T_of (am_s2 (List.mem_of_getElem? (i := 239) (by rfl))) (by rfl)
set_option maxRecDepth 100000 in
theorem am_c154 : Cond.code (am_yN 154) (am_cN 154) (am_M 154) (am_rN 154) ∈ am_T := am_T_of (am_s4 (List.mem_of_getElem? (i := 182) (by rfl))) (by rfl)
set_option maxRecDepth 100000 in
theorem am_c155 : Cond.code (am_yN 155) (am_cN 155) (am_M 155) (am_rN 155) ∈ am_T := am_T_of (am_s5 (List.mem_of_getElem? (i := 128) (by rfl))) (by rfl)
set_option maxRecDepth 100000 in
theorem am_c156 : Cond.code (am_yN 156) (am_cN 156) (am_M 156) (am_rN 156) ∈ am_T := am_T_of (am_s3 (List.mem_of_getElem? (i := 134) (by rfl))) (by rfl)
set_option maxRecDepth 100000 in
theorem am_c157 : Cond.code (am_yN 157) (am_cN 157) (am_M 157) (am_rN 157) ∈ am_T := am_T_of (am_s2 (List.mem_of_getElem? (i := 220) (by rfl))) (by rfl)
set_option maxRecDepth 100000 in
theorem am_c158 : Cond.code (am_yN 158) (am_cN 158) (am_M 158) (am_rN 158) ∈ am_T := am_T_of (am_s2 (List.mem_of_getElem? (i := 223) (by rfl))) (by rfl)
set_option maxRecDepth 100000 in
theorem am_c159 : Cond.code (am_yN 159) (am_cN 159) (am_M 159) (am_rN 159) ∈ am_T := am_T_of (am_s3 (List.mem_of_getElem? (i := 109) (by rfl))) (by rfl)
set_option maxRecDepth 100000 in
theorem am_c160 : Cond.code (am_yN 160) (am_cN 160) (am_M 160) (am_rN 160) ∈ am_T := am_T_of (am_s5 (List.mem_of_getElem? (i := 228) (by rfl))) (by rfl)
set_option maxRecDepth 100000 in
theorem am_c161 : Cond.code (am_yN 161) (am_cN 161) (am_M 161) (am_rN 161) ∈ am_T := am_T_of (am_s6 (List.mem_of_getElem? (i := 209) (by rfl))) (by rfl)
set_option maxRecDepth 100000 in
theorem am_c162 : Cond.code (am_yN 162) (am_cN 162) (am_M 162) (am_rN 162) ∈ am_T := am_T_of (am_s7 (List.mem_of_getElem? (i := 74) (by rfl))) (by rfl)
set_option maxRecDepth 100000 in
theorem am_c163 : Cond.code (am_yN 163) (am_cN 163) (am_M 163) (am_rN 163) ∈ am_T := am_T_of (am_s8 (List.mem_of_getElem? (i := 151) (by rfl))) (by rfl)
set_option maxRecDepth 100000 in
theorem am_c164 : Cond.code (am_yN 164) (am_cN 164) (am_M 164) (am_rN 164) ∈ am_T := am_T_of (am_s7 (List.mem_of_getElem? (i := 51) (by rfl))) (by rfl)
set_option maxRecDepth 100000 in
theorem am_c165 : Cond.code (am_yN 165) (am_cN 165) (am_M 165) (am_rN 165) ∈ am_T := am_T_of (am_s6 (List.mem_of_getElem? (i := 198) (by rfl))) (by rfl)
set_option maxRecDepth 100000 in
theorem am_c166 : Cond.code (am_yN 166) (am_cN 166) (am_M 166) (am_rN 166) ∈ am_T := am_T_of (am_s7 (List.mem_of_getElem? (i := 104) (by rfl))) (by rfl)
set_option maxRecDepth 100000 in
theorem am_c167 : Cond.code (am_yN 167) (am_cN 167) (am_M 167) (am_rN 167) ∈ am_T := am_T_of (am_s6 (List.mem_of_getElem? (i := 217) (by rfl))) (by rfl)
set_option maxRecDepth 100000 in
theorem am_c168 : Cond.code (am_yN 168) (am_cN 168) (am_M 168) (am_rN 168) ∈ am_T := am_T_of (am_s8 (List.mem_of_getElem? (i := 30) (by rfl))) (by rfl)
set_option maxRecDepth 100000 in
theorem am_c169 : Cond.code (am_yN 169) (am_cN 169) (am_M 169) (am_rN 169) ∈ am_T := am_T_of (am_s6 (List.mem_of_getElem? (i := 202) (by rfl))) (by rfl)
set_option maxRecDepth 100000 in
theorem am_c170 : Cond.code (am_yN 170) (am_cN 170) (am_M 170) (am_rN 170) ∈ am_T := am_T_of (am_s8 (List.mem_of_getElem? (i := 26) (by rfl))) (by rfl)
set_option maxRecDepth 100000 in
theorem am_c171 : Cond.code (am_yN 171) (am_cN 171) (am_M 171) (am_rN 171) ∈ am_T := am_T_of (am_s6 (List.mem_of_getElem? (i := 194) (by rfl))) (by rfl)
set_option maxRecDepth 100000 in
theorem am_c172 : Cond.code (am_yN 172) (am_cN 172) (am_M 172) (am_rN 172) ∈ am_T := am_T_of (am_s6 (List.mem_of_getElem? (i := 206) (by rfl))) (by rfl)
set_option maxRecDepth 100000 in
theorem am_c173 : Cond.code (am_yN 173) (am_cN 173) (am_M 173) (am_rN 173) ∈ am_T := am_T_of (am_s6 (List.mem_of_getElem? (i := 213) (by rfl))) (by rfl)
set_option maxRecDepth 100000 in
theorem am_c174 : Cond.code (am_yN 174) (am_cN 174) (am_M 174) (am_rN 174) ∈ am_T := am_T_of (am_s6 (List.mem_of_getElem? (i := 235) (by rfl))) (by rfl)
set_option maxRecDepth 100000 in
theorem am_c175 : Cond.code (am_yN 175) (am_cN 175) (am_M 175) (am_rN 175) ∈ am_T := am_T_of (am_s7 (List.mem_of_getElem? (i := 20) (by rfl))) (by rfl)
set_option maxRecDepth 100000 in
theorem am_c176 : Cond.code (am_yN 176) (am_cN 176) (am_M 176) (am_rN 176) ∈ am_T := am_T_of (am_s6 (List.mem_of_getElem? (i := 226) (by rfl))) (by rfl)
set_option maxRecDepth 100000 in
theorem am_c177 : Cond.code (am_yN 177) (am_cN 177) (am_M 177) (am_rN 177) ∈ am_T := am_T_of (am_s7 (List.mem_of_getElem? (i := 30) (by rfl))) (by rfl)
set_option maxRecDepth 100000 in
theorem am_c178 : Cond.code (am_yN 178) (am_cN 178) (am_M 178) (am_rN 178) ∈ am_T := am_T_of (am_s7 (List.mem_of_getElem? (i := 71) (by rfl))) (by rfl)
set_option maxRecDepth 100000 in
theorem am_c179 : Cond.code (am_yN 179) (am_cN 179) (am_M 179) (am_rN 179) ∈ am_T := am_T_of (am_s7 (List.mem_of_getElem? (i := 67) (by rfl))) (by rfl)
set_option maxRecDepth 100000 in
theorem am_c180 : Cond.code (am_yN 180) (am_cN 180) (am_M 180) (am_rN 180) ∈ am_T := am_T_of (am_s7 (List.mem_of_getElem? (i := 63) (by rfl))) (by rfl)
set_option maxRecDepth 100000 in
theorem am_c181 : Cond.code (am_yN 181) (am_cN 181) (am_M 181) (am_rN 181) ∈ am_T := am_T_of (am_s8 (List.mem_of_getElem? (i := 198) (by rfl))) (by rfl)
set_option maxRecDepth 100000 in
theorem am_c182 : Cond.code (am_yN 182) (am_cN 182) (am_M 182) (am_rN 182) ∈ am_T := am_T_of (am_s6 (List.mem_of_getElem? (i := 221) (by rfl))) (by rfl)
set_option maxRecDepth 100000 in
theorem am_c183 : Cond.code (am_yN 183) (am_cN 183) (am_M 183) (am_rN 183) ∈ am_T := am_T_of (am_s6 (List.mem_of_getElem? (i := 231) (by rfl))) (by rfl)
set_option maxRecDepth 100000 in
theorem am_c184 : Cond.code (am_yN 184) (am_cN 184) (am_M 184) (am_rN 184) ∈ am_T := am_T_of (am_s7 (List.mem_of_getElem? (i := 34) (by rfl))) (by rfl)
set_option maxRecDepth 100000 in
theorem am_c185 : Cond.code (am_yN 185) (am_cN 185) (am_M 185) (am_rN 185) ∈ am_T := am_T_of (am_s7 (List.mem_of_getElem? (i := 39) (by rfl))) (by rfl)
set_option maxRecDepth 100000 in
theorem am_c186 : Cond.code (am_yN 186) (am_cN 186) (am_M 186) (am_rN 186) ∈ am_T := am_T_of (am_s7 (List.mem_of_getElem? (i := 43) (by rfl))) (by rfl)
set_option maxRecDepth 100000 in
theorem am_c187 : Cond.code (am_yN 187) (am_cN 187) (am_M 187) (am_rN 187) ∈ am_T := am_T_of (am_s7 (List.mem_of_getElem? (i := 85) (by rfl))) (by rfl)
set_option maxRecDepth 100000 in
theorem am_c188 : Cond.code (am_yN 188) (am_cN 188) (am_M 188) (am_rN 188) ∈ am_T := am_T_of (am_s7 (List.mem_of_getElem? (i := 89) (by rfl))) (by rfl)
set_option maxRecDepth 100000 in
theorem am_c189 : Cond.code (am_yN 189) (am_cN 189) (am_M 189) (am_rN 189) ∈ am_T := am_T_of (am_s7 (List.mem_of_getElem? (i := 82) (by rfl))) (by rfl)
set_option maxRecDepth 100000 in
theorem am_c190 : Cond.code (am_yN 190) (am_cN 190) (am_M 190) (am_rN 190) ∈ am_T := am_T_of (am_s7 (List.mem_of_getElem? (i := 93) (by rfl))) (by rfl)
set_option maxRecDepth 100000 in
theorem am_c191 : Cond.code (am_yN 191) (am_cN 191) (am_M 191) (am_rN 191) ∈ am_T := am_T_of (am_s7 (List.mem_of_getElem? (i := 98) (by rfl))) (by rfl)
set_option maxRecDepth 100000 in
theorem am_c192 : Cond.code (am_yN 192) (am_cN 192) (am_M 192) (am_rN 192) ∈ am_T := am_T_of (am_s7 (List.mem_of_getElem? (i := 108) (by rfl))) (by rfl)
set_option maxRecDepth 100000 in
theorem am_c193 : Cond.code (am_yN 193) (am_cN 193) (am_M 193) (am_rN 193) ∈ am_T := am_T_of (am_s7 (List.mem_of_getElem? (i := 112) (by rfl))) (by rfl)
set_option maxRecDepth 100000 in
theorem am_c194 : Cond.code (am_yN 194) (am_cN 194) (am_M 194) (am_rN 194) ∈ am_T := am_T_of (am_s7 (List.mem_of_getElem? (i := 120) (by rfl))) (by rfl)
set_option maxRecDepth 100000 in
theorem am_c195 : Cond.code (am_yN 195) (am_cN 195) (am_M 195) (am_rN 195) ∈ am_T := am_T_of (am_s7 (List.mem_of_getElem? (i := 116) (by rfl))) (by rfl)
set_option maxRecDepth 100000 in
theorem am_c196 : Cond.code (am_yN 196) (am_cN 196) (am_M 196) (am_rN 196) ∈ am_T := am_T_of (am_s7 (List.mem_of_getElem? (i := 124) (by rfl))) (by rfl)
set_option maxRecDepth 100000 in
theorem am_c197 : Cond.code (am_yN 197) (am_cN 197) (am_M 197) (am_rN 197) ∈ am_T := am_T_of (am_s7 (List.mem_of_getElem? (i := 147) (by rfl))) (by rfl)
set_option maxRecDepth 100000 in
theorem am_c198 : Cond.code (am_yN 198) (am_cN 198) (am_M 198) (am_rN 198) ∈ am_T := am_T_of (am_s7 (List.mem_of_getElem? (i := 150) (by rfl))) (by rfl)
set_option maxRecDepth 100000 in
theorem am_c199 : Cond.code (am_yN 199) (am_cN 199) (am_M 199) (am_rN 199) ∈ am_T := am_T_of (am_s7 (List.mem_of_getElem? (i := 140) (by rfl))) (by rfl)
set_option maxRecDepth 100000 in
theorem am_c200 : Cond.code (am_yN 200) (am_cN 200) (am_M 200) (am_rN 200) ∈ am_T := am_T_of (am_s7 (List.mem_of_getElem? (i := 144) (by rfl))) (by rfl)
set_option maxRecDepth 100000 in
theorem am_c201 : Cond.code (am_yN 201) (am_cN 201) (am_M 201) (am_rN 201) ∈ am_T := am_T_of (am_s7 (List.mem_of_getElem? (i := 162) (by rfl))) (by rfl)
set_option maxRecDepth 100000 in
theorem am_c202 : Cond.code (am_yN 202) (am_cN 202) (am_M 202) (am_rN 202) ∈ am_T := am_T_of (am_s7 (List.mem_of_getElem? (i := 183) (by rfl))) (by rfl)
set_option maxRecDepth 100000 in
theorem am_c203 : Cond.code (am_yN 203) (am_cN 203) (am_M 203) (am_rN 203) ∈ am_T := am_T_of (am_s7 (List.mem_of_getElem? (i := 166) (by rfl))) (by rfl)
set_option maxRecDepth 100000 in
theorem am_c204 : Cond.code (am_yN 204) (am_cN 204) (am_M 204) (am_rN 204) ∈ am_T := am_T_of (am_s7 (List.mem_of_getElem? (i := 212) (by rfl))) (by rfl)
set_option maxRecDepth 100000 in
theorem am_c205 : Cond.code (am_yN 205) (am_cN 205) (am_M 205) (am_rN 205) ∈ am_T := am_T_of (am_s7 (List.mem_of_getElem? (i := 128) (by rfl))) (by rfl)
set_option maxRecDepth 100000 in
theorem am_c206 : Cond.code (am_yN 206) (am_cN 206) (am_M 206) (am_rN 206) ∈ am_T := am_T_of (am_s7 (List.mem_of_getElem? (i := 208) (by rfl))) (by rfl)
set_option maxRecDepth 100000 in
theorem am_c207 : Cond.code (am_yN 207) (am_cN 207) (am_M 207) (am_rN 207) ∈ am_T := am_T_of (am_s7 (List.mem_of_getElem? (i := 179) (by rfl))) (by rfl)
set_option maxRecDepth 100000 in
theorem am_c208 : Cond.code (am_yN 208) (am_cN 208) (am_M 208) (am_rN 208) ∈ am_T := am_T_of (am_s7 (List.mem_of_getElem? (i := 219) (by rfl))) (by rfl)
set_option maxRecDepth 100000 in
theorem am_c209 : Cond.code (am_yN 209) (am_cN 209) (am_M 209) (am_rN 209) ∈ am_T := am_T_of (am_s7 (List.mem_of_getElem? (i := 223) (by rfl))) (by rfl)
set_option maxRecDepth 100000 in
theorem am_c210 : Cond.code (am_yN 210) (am_cN 210) (am_M 210) (am_rN 210) ∈ am_T := am_T_of (am_s7 (List.mem_of_getElem? (i := 227) (by rfl))) (by rfl)
set_option maxRecDepth 100000 in
theorem am_c211 : Cond.code (am_yN 211) (am_cN 211) (am_M 211) (am_rN 211) ∈ am_T := am_T_of (am_s7 (List.mem_of_getElem? (i := 231) (by rfl))) (by rfl)
set_option maxRecDepth 100000 in
theorem am_c212 : Cond.code (am_yN 212) (am_cN 212) (am_M 212) (am_rN 212) ∈ am_T := am_T_of (am_s7 (List.mem_of_getElem? (i := 199) (by rfl))) (by rfl)
set_option maxRecDepth 100000 in
theorem am_c213 : Cond.code (am_yN 213) (am_cN 213) (am_M 213) (am_rN 213) ∈ am_T := am_T_of (am_s7 (List.mem_of_getElem? (i := 195) (by rfl))) (by rfl)
set_option maxRecDepth 100000 in
theorem am_c214 : Cond.code (am_yN 214) (am_cN 214) (am_M 214) (am_rN 214) ∈ am_T := am_T_of (am_s7 (List.mem_of_getElem? (i := 187) (by rfl))) (by rfl)
set_option maxRecDepth 100000 in
theorem am_c215 : Cond.code (am_yN 215) (am_cN 215) (am_M 215) (am_rN 215) ∈ am_T := am_T_of (am_s7 (List.mem_of_getElem? (i := 204) (by rfl))) (by rfl)
set_option maxRecDepth 100000 in
theorem am_c216 : Cond.code (am_yN 216) (am_cN 216) (am_M 216) (am_rN 216) ∈ am_T := am_T_of (am_s7 (List.mem_of_getElem? (i := 191) (by rfl))) (by rfl)
set_option maxRecDepth 100000 in
theorem am_c217 : Cond.code (am_yN 217) (am_cN 217) (am_M 217) (am_rN 217) ∈ am_T := am_T_of (am_s7 (List.mem_of_getElem? (i := 174) (by rfl))) (by rfl)
set_option maxRecDepth 100000 in
theorem am_c218 : Cond.code (am_yN 218) (am_cN 218) (am_M 218) (am_rN 218) ∈ am_T := am_T_of (am_s7 (List.mem_of_getElem? (i := 216) (by rfl))) (by rfl)
set_option maxRecDepth 100000 in
theorem am_c219 : Cond.code (am_yN 219) (am_cN 219) (am_M 219) (am_rN 219) ∈ am_T := am_T_of (am_s7 (List.mem_of_getElem? (i := 239) (by rfl))) (by rfl)
set_option maxRecDepth 100000 in
theorem am_c220 : Cond.code (am_yN 220) (am_cN 220) (am_M 220) (am_rN 220) ∈ am_T := am_T_of (am_s7 (List.mem_of_getElem? (i := 170) (by rfl))) (by rfl)
set_option maxRecDepth 100000 in
theorem am_c221 : Cond.code (am_yN 221) (am_cN 221) (am_M 221) (am_rN 221) ∈ am_T := am_T_of (am_s7 (List.mem_of_getElem? (i := 136) (by rfl))) (by rfl)
set_option maxRecDepth 100000 in
theorem am_c222 : Cond.code (am_yN 222) (am_cN 222) (am_M 222) (am_rN 222) ∈ am_T := am_T_of (am_s8 (List.mem_of_getElem? (i := 6) (by rfl))) (by rfl)
set_option maxRecDepth 100000 in
theorem am_c223 : Cond.code (am_yN 223) (am_cN 223) (am_M 223) (am_rN 223) ∈ am_T := am_T_of (am_s7 (List.mem_of_getElem? (i := 158) (by rfl))) (by rfl)
set_option maxRecDepth 100000 in
theorem am_c224 : Cond.code (am_yN 224) (am_cN 224) (am_M 224) (am_rN 224) ∈ am_T := am_T_of (am_s7 (List.mem_of_getElem? (i := 132) (by rfl))) (by rfl)
set_option maxRecDepth 100000 in
theorem am_c225 : Cond.code (am_yN 225) (am_cN 225) (am_M 225) (am_rN 225) ∈ am_T := am_T_of (am_s8 (List.mem_of_getElem? (i := 14) (by rfl))) (by rfl)
set_option maxRecDepth 100000 in
theorem am_c226 : Cond.code (am_yN 226) (am_cN 226) (am_M 226) (am_rN 226) ∈ am_T := am_T_of (am_s8 (List.mem_of_getElem? (i := 10) (by rfl))) (by rfl)
set_option maxRecDepth 100000 in
theorem am_c227 : Cond.code (am_yN 227) (am_cN 227) (am_M 227) (am_rN 227) ∈ am_T := am_T_of (am_s7 (List.mem_of_getElem? (i := 24) (by rfl))) (by rfl)
set_option maxRecDepth 100000 in
theorem am_c228 : Cond.code (am_yN 228) (am_cN 228) (am_M 228) (am_rN 228) ∈ am_T := am_T_of (am_s7 (List.mem_of_getElem? (i := 16) (by rfl))) (by rfl)
set_option maxRecDepth 100000 in
theorem am_c229 : Cond.code (am_yN 229) (am_cN 229) (am_M 229) (am_rN 229) ∈ am_T := am_T_of (am_s7 (List.mem_of_getElem? (i := 12) (by rfl))) (by rfl)
set_option maxRecDepth 100000 in
theorem am_c230 : Cond.code (am_yN 230) (am_cN 230) (am_M 230) (am_rN 230) ∈ am_T := am_T_of (am_s7 (List.mem_of_getElem? (i := 8) (by rfl))) (by rfl)
set_option maxRecDepth 100000 in
theorem am_c231 : Cond.code (am_yN 231) (am_cN 231) (am_M 231) (am_rN 231) ∈ am_T := am_T_of (am_s7 (List.mem_of_getElem? (i := 3) (by rfl))) (by rfl)
set_option maxRecDepth 100000 in
theorem am_c232 : Cond.code (am_yN 232) (am_cN 232) (am_M 232) (am_rN 232) ∈ am_T := am_T_of (am_s7 (List.mem_of_getElem? (i := 48) (by rfl))) (by rfl)
set_option maxRecDepth 100000 in
theorem am_c233 : Cond.code (am_yN 233) (am_cN 233) (am_M 233) (am_rN 233) ∈ am_T := am_T_of (am_s7 (List.mem_of_getElem? (i := 55) (by rfl))) (by rfl)
set_option maxRecDepth 100000 in
theorem am_c234 : Cond.code (am_yN 234) (am_cN 234) (am_M 234) (am_rN 234) ∈ am_T := am_T_of (am_s7 (List.mem_of_getElem? (i := 78) (by rfl))) (by rfl)
set_option maxRecDepth 100000 in
theorem am_c235 : Cond.code (am_yN 235) (am_cN 235) (am_M 235) (am_rN 235) ∈ am_T := am_T_of (am_s6 (List.mem_of_getElem? (i := 239) (by rfl))) (by rfl)
set_option maxRecDepth 100000 in
theorem am_c236 : Cond.code (am_yN 236) (am_cN 236) (am_M 236) (am_rN 236) ∈ am_T := am_T_of (am_s7 (List.mem_of_getElem? (i := 59) (by rfl))) (by rfl)
set_option maxRecDepth 100000 in
theorem am_c237 : Cond.code (am_yN 237) (am_cN 237) (am_M 237) (am_rN 237) ∈ am_T := am_T_of (am_s8 (List.mem_of_getElem? (i := 34) (by rfl))) (by rfl)
set_option maxRecDepth 100000 in
theorem am_c238 : Cond.code (am_yN 238) (am_cN 238) (am_M 238) (am_rN 238) ∈ am_T := am_T_of (am_s8 (List.mem_of_getElem? (i := 22) (by rfl))) (by rfl)
set_option maxRecDepth 100000 in
theorem am_c239 : Cond.code (am_yN 239) (am_cN 239) (am_M 239) (am_rN 239) ∈ am_T := am_T_of (am_s8 (List.mem_of_getElem? (i := 18) (by rfl))) (by rfl)
set_option maxRecDepth 100000 in
theorem am_c240 : Cond.code (am_yN 240) (am_cN 240) (am_M 240) (am_rN 240) ∈ am_T := am_T_of (am_s8 (List.mem_of_getElem? (i := 42) (by rfl))) (by rfl)
set_option maxRecDepth 100000 in
theorem am_c241 : Cond.code (am_yN 241) (am_cN 241) (am_M 241) (am_rN 241) ∈ am_T := am_T_of (am_s8 (List.mem_of_getElem? (i := 38) (by rfl))) (by rfl)
set_option maxRecDepth 100000 in
theorem am_c242 : Cond.code (am_yN 242) (am_cN 242) (am_M 242) (am_rN 242) ∈ am_T := am_T_of (am_s8 (List.mem_of_getElem? (i := 50) (by rfl))) (by rfl)
set_option maxRecDepth 100000 in
theorem am_c243 : Cond.code (am_yN 243) (am_cN 243) (am_M 243) (am_rN 243) ∈ am_T := am_T_of (am_s8 (List.mem_of_getElem? (i := 46) (by rfl))) (by rfl)
set_option maxRecDepth 100000 in
theorem am_c244 : Cond.code (am_yN 244) (am_cN 244) (am_M 244) (am_rN 244) ∈ am_T := am_T_of (am_s8 (List.mem_of_getElem? (i := 62) (by rfl))) (by rfl)
set_option maxRecDepth 100000 in
theorem am_c245 : Cond.code (am_yN 245) (am_cN 245) (am_M 245) (am_rN 245) ∈ am_T := am_T_of (am_s8 (List.mem_of_getElem? (i := 58) (by rfl))) (by rfl)
set_option maxRecDepth 100000 in
theorem am_c246 : Cond.code (am_yN 246) (am_cN 246) (am_M 246) (am_rN 246) ∈ am_T := am_T_of (am_s8 (List.mem_of_getElem? (i := 54) (by rfl))) (by rfl)
set_option maxRecDepth 100000 in
theorem am_c247 : Cond.code (am_yN 247) (am_cN 247) (am_M 247) (am_rN 247) ∈ am_T := am_T_of (am_s8 (List.mem_of_getElem? (i := 66) (by rfl))) (by rfl)
set_option maxRecDepth 100000 in
theorem am_c248 : Cond.code (am_yN 248) (am_cN 248) (am_M 248) (am_rN 248) ∈ am_T := am_T_of (am_s8 (List.mem_of_getElem? (i := 75) (by rfl))) (by rfl)
set_option maxRecDepth 100000 in
theorem am_c249 : Cond.code (am_yN 249) (am_cN 249) (am_M 249) (am_rN 249) ∈ am_T := am_T_of (am_s8 (List.mem_of_getElem? (i := 71) (by rfl))) (by rfl)
set_option maxRecDepth 100000 in
theorem am_c250 : Cond.code (am_yN 250) (am_cN 250) (am_M 250) (am_rN 250) ∈ am_T := am_T_of (am_s8 (List.mem_of_getElem? (i := 79) (by rfl))) (by rfl)
set_option maxRecDepth 100000 in
theorem am_c251 : Cond.code (am_yN 251) (am_cN 251) (am_M 251) (am_rN 251) ∈ am_T := am_T_of (am_s8 (List.mem_of_getElem? (i := 87) (by rfl))) (by rfl)
set_option maxRecDepth 100000 in
theorem am_c252 : Cond.code (am_yN 252) (am_cN 252) (am_M 252) (am_rN 252) ∈ am_T := am_T_of (am_s8 (List.mem_of_getElem? (i := 83) (by rfl))) (by rfl)
set_option maxRecDepth 100000 in
theorem am_c253 : Cond.code (am_yN 253) (am_cN 253) (am_M 253) (am_rN 253) ∈ am_T := am_T_of (am_s8 (List.mem_of_getElem? (i := 103) (by rfl))) (by rfl)
set_option maxRecDepth 100000 in
theorem am_c254 : Cond.code (am_yN 254) (am_cN 254) (am_M 254) (am_rN 254) ∈ am_T := am_T_of (am_s8 (List.mem_of_getElem? (i := 99) (by rfl))) (by rfl)
set_option maxRecDepth 100000 in
theorem am_c255 : Cond.code (am_yN 255) (am_cN 255) (am_M 255) (am_rN 255) ∈ am_T := am_T_of (am_s8 (List.mem_of_getElem? (i := 107) (by rfl))) (by rfl)
set_option maxRecDepth 100000 in
theorem am_c256 : Cond.code (am_yN 256) (am_cN 256) (am_M 256) (am_rN 256) ∈ am_T := am_T_of (am_s8 (List.mem_of_getElem? (i := 95) (by rfl))) (by rfl)
set_option maxRecDepth 100000 in
theorem am_c257 : Cond.code (am_yN 257) (am_cN 257) (am_M 257) (am_rN 257) ∈ am_T := am_T_of (am_s8 (List.mem_of_getElem? (i := 91) (by rfl))) (by rfl)
set_option maxRecDepth 100000 in
theorem am_c258 : Cond.code (am_yN 258) (am_cN 258) (am_M 258) (am_rN 258) ∈ am_T := am_T_of (am_s8 (List.mem_of_getElem? (i := 111) (by rfl))) (by rfl)
set_option maxRecDepth 100000 in
theorem am_c259 : Cond.code (am_yN 259) (am_cN 259) (am_M 259) (am_rN 259) ∈ am_T := am_T_of (am_s8 (List.mem_of_getElem? (i := 115) (by rfl))) (by rfl)
set_option maxRecDepth 100000 in
theorem am_c260 : Cond.code (am_yN 260) (am_cN 260) (am_M 260) (am_rN 260) ∈ am_T := am_T_of (am_s8 (List.mem_of_getElem? (i := 119) (by rfl))) (by rfl)
set_option maxRecDepth 100000 in
theorem am_c261 : Cond.code (am_yN 261) (am_cN 261) (am_M 261) (am_rN 261) ∈ am_T := am_T_of (am_s8 (List.mem_of_getElem? (i := 127) (by rfl))) (by rfl)
set_option maxRecDepth 100000 in
theorem am_c262 : Cond.code (am_yN 262) (am_cN 262) (am_M 262) (am_rN 262) ∈ am_T := am_T_of (am_s8 (List.mem_of_getElem? (i := 123) (by rfl))) (by rfl)
set_option maxRecDepth 100000 in
theorem am_c263 : Cond.code (am_yN 263) (am_cN 263) (am_M 263) (am_rN 263) ∈ am_T := am_T_of (am_s8 (List.mem_of_getElem? (i := 131) (by rfl))) (by rfl)
set_option maxRecDepth 100000 in
theorem am_c264 : Cond.code (am_yN 264) (am_cN 264) (am_M 264) (am_rN 264) ∈ am_T := am_T_of (am_s8 (List.mem_of_getElem? (i := 144) (by rfl))) (by rfl)
set_option maxRecDepth 100000 in
theorem am_c265 : Cond.code (am_yN 265) (am_cN 265) (am_M 265) (am_rN 265) ∈ am_T := am_T_of (am_s8 (List.mem_of_getElem? (i := 140) (by rfl))) (by rfl)
set_option maxRecDepth 100000 in
theorem am_c266 : Cond.code (am_yN 266) (am_cN 266) (am_M 266) (am_rN 266) ∈ am_T := am_T_of (am_s8 (List.mem_of_getElem? (i := 136) (by rfl))) (by rfl)
set_option maxRecDepth 100000 in
theorem am_c267 : Cond.code (am_yN 267) (am_cN 267) (am_M 267) (am_rN 267) ∈ am_T := am_T_of (am_s8 (List.mem_of_getElem? (i := 148) (by rfl))) (by rfl)
set_option maxRecDepth 100000 in
theorem am_c268 : Cond.code (am_yN 268) (am_cN 268) (am_M 268) (am_rN 268) ∈ am_T := am_T_of (am_s8 (List.mem_of_getElem? (i := 159) (by rfl))) (by rfl)
set_option maxRecDepth 100000 in
theorem am_c269 : Cond.code (am_yN 269) (am_cN 269) (am_M 269) (am_rN 269) ∈ am_T := am_T_of (am_s8 (List.mem_of_getElem? (i := 162) (by rfl))) (by rfl)
set_option maxRecDepth 100000 in
theorem am_c270 : Cond.code (am_yN 270) (am_cN 270) (am_M 270) (am_rN 270) ∈ am_T := am_T_of (am_s8 (List.mem_of_getElem? (i := 155) (by rfl))) (by rfl)
set_option maxRecDepth 100000 in
theorem am_c271 : Cond.code (am_yN 271) (am_cN 271) (am_M 271) (am_rN 271) ∈ am_T := am_T_of (am_s8 (List.mem_of_getElem? (i := 166) (by rfl))) (by rfl)
set_option maxRecDepth 100000 in
theorem am_c272 : Cond.code (am_yN 272) (am_cN 272) (am_M 272) (am_rN 272) ∈ am_T := am_T_of (am_s8 (List.mem_of_getElem? (i := 170) (by rfl))) (by rfl)
set_option maxRecDepth 100000 in
theorem am_c273 : Cond.code (am_yN 273) (am_cN 273) (am_M 273) (am_rN 273) ∈ am_T := am_T_of (am_s8 (List.mem_of_getElem? (i := 174) (by rfl))) (by rfl)
set_option maxRecDepth 100000 in
theorem am_c274 : Cond.code (am_yN 274) (am_cN 274) (am_M 274) (am_rN 274) ∈ am_T := am_T_of (am_s8 (List.mem_of_getElem? (i := 188) (by rfl))) (by rfl)
set_option maxRecDepth 100000 in
theorem am_c275 : Cond.code (am_yN 275) (am_cN 275) (am_M 275) (am_rN 275) ∈ am_T := am_T_of (am_s8 (List.mem_of_getElem? (i := 184) (by rfl))) (by rfl)
set_option maxRecDepth 100000 in
theorem am_c276 : Cond.code (am_yN 276) (am_cN 276) (am_M 276) (am_rN 276) ∈ am_T := am_T_of (am_s8 (List.mem_of_getElem? (i := 202) (by rfl))) (by rfl)
set_option maxRecDepth 100000 in
theorem am_c277 : Cond.code (am_yN 277) (am_cN 277) (am_M 277) (am_rN 277) ∈ am_T := am_T_of (am_s8 (List.mem_of_getElem? (i := 206) (by rfl))) (by rfl)
set_option maxRecDepth 100000 in
theorem am_c278 : Cond.code (am_yN 278) (am_cN 278) (am_M 278) (am_rN 278) ∈ am_T := am_T_of (am_s8 (List.mem_of_getElem? (i := 194) (by rfl))) (by rfl)
set_option maxRecDepth 100000 in
theorem am_c279 : Cond.code (am_yN 279) (am_cN 279) (am_M 279) (am_rN 279) ∈ am_T := am_T_of (am_s8 (List.mem_of_getElem? (i := 180) (by rfl))) (by rfl)
set_option maxRecDepth 100000 in
theorem am_c280 : Cond.code (am_yN 280) (am_cN 280) (am_M 280) (am_rN 280) ∈ am_T := am_T_of (am_s8 (List.mem_of_getElem? (i := 210) (by rfl))) (by rfl)
set_option maxRecDepth 100000 in
theorem am_c281 : Cond.code (am_yN 281) (am_cN 281) (am_M 281) (am_rN 281) ∈ am_T := am_T_of (am_s8 (List.mem_of_getElem? (i := 214) (by rfl))) (by rfl)
set_option maxRecDepth 100000 in
theorem am_c282 : Cond.code (am_yN 282) (am_cN 282) (am_M 282) (am_rN 282) ∈ am_T := am_T_of (am_s8 (List.mem_of_getElem? (i := 222) (by rfl))) (by rfl)
set_option maxRecDepth 100000 in
theorem am_c283 : Cond.code (am_yN 283) (am_cN 283) (am_M 283) (am_rN 283) ∈ am_T := am_T_of (am_s8 (List.mem_of_getElem? (i := 218) (by rfl))) (by rfl)
set_option maxRecDepth 100000 in
theorem am_c284 : Cond.code (am_yN 284) (am_cN 284) (am_M 284) (am_rN 284) ∈ am_T := am_T_of (am_s8 (List.mem_of_getElem? (i := 229) (by rfl))) (by rfl)
set_option maxRecDepth 100000 in
theorem am_c285 : Cond.code (am_yN 285) (am_cN 285) (am_M 285) (am_rN 285) ∈ am_T := am_T_of (am_s8 (List.mem_of_getElem? (i := 233) (by rfl))) (by rfl)
set_option maxRecDepth 100000 in
theorem am_c286 : Cond.code (am_yN 286) (am_cN 286) (am_M 286) (am_rN 286) ∈ am_T := am_T_of (am_s8 (List.mem_of_getElem? (i := 239) (by rfl))) (by rfl)
set_option maxRecDepth 100000 in
theorem am_c287 : Cond.code (am_yN 287) (am_cN 287) (am_M 287) (am_rN 287) ∈ am_T := am_T_of (am_s5 (List.mem_of_getElem? (i := 121) (by rfl))) (by rfl)
theorem am_cc0 : ∀ y ∈ ([0, 1, 2, 3, 4, 5, 6, 7, 8, 9, 10, 11, 12, 13, 14, 15, 16, 17, 18, 19, 20, 21, 22, 23, 24, 25, 26, 27, 28, 29, 30, 31, 32, 33, 34, 35, 36, 37, 38, 39, 40, 41, 42, 43, 44, 45, 46, 47] : List Nat), Cond.code (am_yN y) (am_cN y) (am_M y) (am_rN y) ∈ am_T := List.forall_mem_cons.mpr ⟨am_c0, List.forall_mem_cons.mpr ⟨am_c1, List.forall_mem_cons.mpr ⟨am_c2, List.forall_mem_cons.mpr ⟨am_c3, List.forall_mem_cons.mpr ⟨am_c4, List.forall_mem_cons.mpr ⟨am_c5, List.forall_mem_cons.mpr ⟨am_c6, List.forall_mem_cons.mpr ⟨am_c7, List.forall_mem_cons.mpr ⟨am_c8, List.forall_mem_cons.mpr ⟨am_c9, List.forall_mem_cons.mpr ⟨am_c10, List.forall_mem_cons.mpr ⟨am_c11, List.forall_mem_cons.mpr ⟨am_c12, List.forall_mem_cons.mpr ⟨am_c13, List.forall_mem_cons.mpr ⟨am_c14, List.forall_mem_cons.mpr ⟨am_c15, List.forall_mem_cons.mpr ⟨am_c16, List.forall_mem_cons.mpr ⟨am_c17, List.forall_mem_cons.mpr ⟨am_c18, List.forall_mem_cons.mpr ⟨am_c19, List.forall_mem_cons.mpr ⟨am_c20, List.forall_mem_cons.mpr ⟨am_c21, List.forall_mem_cons.mpr ⟨am_c22, List.forall_mem_cons.mpr ⟨am_c23, List.forall_mem_cons.mpr ⟨am_c24, List.forall_mem_cons.mpr ⟨am_c25, List.forall_mem_cons.mpr ⟨am_c26, List.forall_mem_cons.mpr ⟨am_c27, List.forall_mem_cons.mpr ⟨am_c28, List.forall_mem_cons.mpr ⟨am_c29, List.forall_mem_cons.mpr ⟨am_c30, List.forall_mem_cons.mpr ⟨am_c31, List.forall_mem_cons.mpr ⟨am_c32, List.forall_mem_cons.mpr ⟨am_c33, List.forall_mem_cons.mpr ⟨am_c34, List.forall_mem_cons.mpr ⟨am_c35, List.forall_mem_cons.mpr ⟨am_c36, List.forall_mem_cons.mpr ⟨am_c37, List.forall_mem_cons.mpr ⟨am_c38, List.forall_mem_cons.mpr ⟨am_c39, List.forall_mem_cons.mpr ⟨am_c40, List.forall_mem_cons.mpr ⟨am_c41, List.forall_mem_cons.mpr ⟨am_c42, List.forall_mem_cons.mpr ⟨am_c43, List.forall_mem_cons.mpr ⟨am_c44, List.forall_mem_cons.mpr ⟨am_c45, List.forall_mem_cons.mpr ⟨am_c46, List.forall_mem_cons.mpr ⟨am_c47, fun _ h => absurd h List.not_mem_nil⟩⟩⟩⟩⟩⟩⟩⟩⟩⟩⟩⟩⟩⟩⟩⟩⟩⟩⟩⟩⟩⟩⟩⟩⟩⟩⟩⟩⟩⟩⟩⟩⟩⟩⟩⟩⟩⟩⟩⟩⟩⟩⟩⟩⟩⟩⟩⟩
theorem am_cc1 : ∀ y ∈ ([48, 49, 50, 51, 52, 53, 54, 55, 56, 57, 58, 59, 60, 61, 62, 63, 64, 65, 66, 67, 68, 69, 70, 71, 72, 73, 74, 75, 76, 77, 78, 79, 80, 81, 82, 83, 84, 85, 86, 87, 88, 89, 90, 91, 92, 93, 94, 95] : List Nat), Cond.code (am_yN y) (am_cN y) (am_M y) (am_rN y) ∈ am_T := List.forall_mem_cons.mpr ⟨am_c48, List.forall_mem_cons.mpr ⟨am_c49, List.forall_mem_cons.mpr ⟨am_c50, List.forall_mem_cons.mpr ⟨am_c51, List.forall_mem_cons.mpr ⟨am_c52, List.forall_mem_cons.mpr ⟨am_c53, List.forall_mem_cons.mpr ⟨am_c54, List.forall_mem_cons.mpr ⟨am_c55, List.forall_mem_cons.mpr ⟨am_c56, List.forall_mem_cons.mpr ⟨am_c57, List.forall_mem_cons.mpr ⟨am_c58, List.forall_mem_cons.mpr ⟨am_c59, List.forall_mem_cons.mpr ⟨am_c60, List.forall_mem_cons.mpr ⟨am_c61, List.forall_mem_cons.mpr ⟨am_c62, List.forall_mem_cons.mpr ⟨am_c63, List.forall_mem_cons.mpr ⟨am_c64, List.forall_mem_cons.mpr ⟨am_c65, List.forall_mem_cons.mpr ⟨am_c66, List.forall_mem_cons.mpr ⟨am_c67, List.forall_mem_cons.mpr ⟨am_c68, List.forall_mem_cons.mpr ⟨am_c69, List.forall_mem_cons.mpr ⟨am_c70, List.forall_mem_cons.mpr ⟨am_c71, List.forall_mem_cons.mpr ⟨am_c72, List.forall_mem_cons.mpr ⟨am_c73, List.forall_mem_cons.mpr ⟨am_c74, List.forall_mem_cons.mpr ⟨am_c75, List.forall_mem_cons.mpr ⟨am_c76, List.forall_mem_cons.mpr ⟨am_c77, List.forall_mem_cons.mpr ⟨am_c78, List.forall_mem_cons.mpr ⟨am_c79, List.forall_mem_cons.mpr ⟨am_c80, List.forall_mem_cons.mpr ⟨am_c81, List.forall_mem_cons.mpr ⟨am_c82, List.forall_mem_cons.mpr ⟨am_c83, List.forall_mem_cons.mpr ⟨am_c84, List.forall_mem_cons.mpr ⟨am_c85, List.forall_mem_cons.mpr ⟨am_c86, List.forall_mem_cons.mpr ⟨am_c87, List.forall_mem_cons.mpr ⟨am_c88, List.forall_mem_cons.mpr ⟨am_c89, List.forall_mem_cons.mpr ⟨am_c90, List.forall_mem_cons.mpr ⟨am_c91, List.forall_mem_cons.mpr ⟨am_c92, List.forall_mem_cons.mpr ⟨am_c93, List.forall_mem_cons.mpr ⟨am_c94, List.forall_mem_cons.mpr ⟨am_c95, fun _ h => absurd h List.not_mem_nil⟩⟩⟩⟩⟩⟩⟩⟩⟩⟩⟩⟩⟩⟩⟩⟩⟩⟩⟩⟩⟩⟩⟩⟩⟩⟩⟩⟩⟩⟩⟩⟩⟩⟩⟩⟩⟩⟩⟩⟩⟩⟩⟩⟩⟩⟩⟩⟩
theorem am_cc2 : ∀ y ∈ ([96, 97, 98, 99, 100, 101, 102, 103, 104, 105, 106, 107, 108, 109, 110, 111, 112, 113, 114, 115, 116, 117, 118, 119, 120, 121, 122, 123, 124, 125, 126, 127, 128, 129, 130, 131, 132, 133, 134, 135, 136, 137, 138, 139, 140, 141, 142, 143] : List Nat), Cond.code (am_yN y) (am_cN y) (am_M y) (am_rN y) ∈ am_T := List.forall_mem_cons.mpr ⟨am_c96, List.forall_mem_cons.mpr ⟨am_c97, List.forall_mem_cons.mpr ⟨am_c98, List.forall_mem_cons.mpr ⟨am_c99, List.forall_mem_cons.mpr ⟨am_c100, List.forall_mem_cons.mpr ⟨am_c101, List.forall_mem_cons.mpr ⟨am_c102, List.forall_mem_cons.mpr ⟨am_c103, List.forall_mem_cons.mpr ⟨am_c104, List.forall_mem_cons.mpr ⟨am_c105, List.forall_mem_cons.mpr ⟨am_c106, List.forall_mem_cons.mpr ⟨am_c107, List.forall_mem_cons.mpr ⟨am_c108, List.forall_mem_cons.mpr ⟨am_c109, List.forall_mem_cons.mpr ⟨am_c110, List.forall_mem_cons.mpr ⟨am_c111, List.forall_mem_cons.mpr ⟨am_c112, List.forall_mem_cons.mpr ⟨am_c113, List.forall_mem_cons.mpr ⟨am_c114, List.forall_mem_cons.mpr ⟨am_c115, List.forall_mem_cons.mpr ⟨am_c116, List.forall_mem_cons.mpr ⟨am_c117, List.forall_mem_cons.mpr ⟨am_c118, List.forall_mem_cons.mpr ⟨am_c119, List.forall_mem_cons.mpr ⟨am_c120, List.forall_mem_cons.mpr ⟨am_c121, List.forall_mem_cons.mpr ⟨am_c122, List.forall_mem_cons.mpr ⟨am_c123, List.forall_mem_cons.mpr ⟨am_c124, List.forall_mem_cons.mpr ⟨am_c125, List.forall_mem_cons.mpr ⟨am_c126, List.forall_mem_cons.mpr ⟨am_c127, List.forall_mem_cons.mpr ⟨am_c128, List.forall_mem_cons.mpr ⟨am_c129, List.forall_mem_cons.mpr ⟨am_c130, List.forall_mem_cons.mpr ⟨am_c131, List.forall_mem_cons.mpr ⟨am_c132, List.forall_mem_cons.mpr ⟨am_c133, List.forall_mem_cons.mpr ⟨am_c134, List.forall_mem_cons.mpr ⟨am_c135, List.forall_mem_cons.mpr ⟨am_c136, List.forall_mem_cons.mpr ⟨am_c137, List.forall_mem_cons.mpr ⟨am_c138, List.forall_mem_cons.mpr ⟨am_c139, List.forall_mem_cons.mpr ⟨am_c140, List.forall_mem_cons.mpr ⟨am_c141, List.forall_mem_cons.mpr ⟨am_c142, List.forall_mem_cons.mpr ⟨am_c143, fun _ h => absurd h List.not_mem_nil⟩⟩⟩⟩⟩⟩⟩⟩⟩⟩⟩⟩⟩⟩⟩⟩⟩⟩⟩⟩⟩⟩⟩⟩⟩⟩⟩⟩⟩⟩⟩⟩⟩⟩⟩⟩⟩⟩⟩⟩⟩⟩⟩⟩⟩⟩⟩⟩
theorem am_cc3 : ∀ y ∈ ([144, 145, 146, 147, 148, 149, 150, 151, 152, 153, 154, 155, 156, 157, 158, 159, 160, 161, 162, 163, 164, 165, 166, 167, 168, 169, 170, 171, 172, 173, 174, 175, 176, 177, 178, 179, 180, 181, 182, 183, 184, 185, 186, 187, 188, 189, 190, 191] : List Nat), Cond.code (am_yN y) (am_cN y) (am_M y) (am_rN y) ∈ am_T := List.forall_mem_cons.mpr ⟨am_c144, List.forall_mem_cons.mpr ⟨am_c145, List.forall_mem_cons.mpr ⟨am_c146, List.forall_mem_cons.mpr ⟨am_c147, List.forall_mem_cons.mpr ⟨am_c148, List.forall_mem_cons.mpr ⟨am_c149, List.forall_mem_cons.mpr ⟨am_c150, List.forall_mem_cons.mpr ⟨am_c151, List.forall_mem_cons.mpr ⟨am_c152, List.forall_mem_cons.mpr ⟨am_c153, List.forall_mem_cons.mpr ⟨am_c154, List.forall_mem_cons.mpr ⟨am_c155, List.forall_mem_cons.mpr ⟨am_c156, List.forall_mem_cons.mpr ⟨am_c157, List.forall_mem_cons.mpr ⟨am_c158, List.forall_mem_cons.mpr ⟨am_c159, List.forall_mem_cons.mpr ⟨am_c160, List.forall_mem_cons.mpr ⟨am_c161, List.forall_mem_cons.mpr ⟨am_c162, List.forall_mem_cons.mpr ⟨am_c163, List.forall_mem_cons.mpr ⟨am_c164, List.forall_mem_cons.mpr ⟨am_c165, List.forall_mem_cons.mpr ⟨am_c166, List.forall_mem_cons.mpr ⟨am_c167, List.forall_mem_cons.mpr ⟨am_c168, List.forall_mem_cons.mpr ⟨am_c169, List.forall_mem_cons.mpr ⟨am_c170, List.forall_mem_cons.mpr ⟨am_c171, List.forall_mem_cons.mpr ⟨am_c172, List.forall_mem_cons.mpr ⟨am_c173, List.forall_mem_cons.mpr ⟨am_c174, List.forall_mem_cons.mpr ⟨am_c175, List.forall_mem_cons.mpr ⟨am_c176, List.forall_mem_cons.mpr ⟨am_c177, List.forall_mem_cons.mpr ⟨am_c178, List.forall_mem_cons.mpr ⟨am_c179, List.forall_mem_cons.mpr ⟨am_c180, List.forall_mem_cons.mpr ⟨am_c181, List.forall_mem_cons.mpr ⟨am_c182, List.forall_mem_cons.mpr ⟨am_c183, List.forall_mem_cons.mpr ⟨am_c184, List.forall_mem_cons.mpr ⟨am_c185, List.forall_mem_cons.mpr ⟨am_c186, List.forall_mem_cons.mpr ⟨am_c187, List.forall_mem_cons.mpr ⟨am_c188, List.forall_mem_cons.mpr ⟨am_c189, List.forall_mem_cons.mpr ⟨am_c190, List.forall_mem_cons.mpr ⟨am_c191, fun _ h => absurd h List.not_mem_nil⟩⟩⟩⟩⟩⟩⟩⟩⟩⟩⟩⟩⟩⟩⟩⟩⟩⟩⟩⟩⟩⟩⟩⟩⟩⟩⟩⟩⟩⟩⟩⟩⟩⟩⟩⟩⟩⟩⟩⟩⟩⟩⟩⟩⟩⟩⟩⟩
theorem am_cc4 : ∀ y ∈ ([192, 193, 194, 195, 196, 197, 198, 199, 200, 201, 202, 203, 204, 205, 206, 207, 208, 209, 210, 211, 212, 213, 214, 215, 216, 217, 218, 219, 220, 221, 222, 223, 224, 225, 226, 227, 228, 229, 230, 231, 232, 233, 234, 235, 236, 237, 238, 239] : List Nat), Cond.code (am_yN y) (am_cN y) (am_M y) (am_rN y) ∈ am_T := List.forall_mem_cons.mpr ⟨am_c192, List.forall_mem_cons.mpr ⟨am_c193, List.forall_mem_cons.mpr ⟨am_c194, List.forall_mem_cons.mpr ⟨am_c195, List.forall_mem_cons.mpr ⟨am_c196, List.forall_mem_cons.mpr ⟨am_c197, List.forall_mem_cons.mpr ⟨am_c198, List.forall_mem_cons.mpr ⟨am_c199, List.forall_mem_cons.mpr ⟨am_c200, List.forall_mem_cons.mpr ⟨am_c201, List.forall_mem_cons.mpr ⟨am_c202, List.forall_mem_cons.mpr ⟨am_c203, List.forall_mem_cons.mpr ⟨am_c204, List.forall_mem_cons.mpr ⟨am_c205, List.forall_mem_cons.mpr ⟨am_c206, List.forall_mem_cons.mpr ⟨am_c207, List.forall_mem_cons.mpr ⟨am_c208, List.forall_mem_cons.mpr ⟨am_c209, List.forall_mem_cons.mpr ⟨am_c210, List.forall_mem_cons.mpr ⟨am_c211, List.forall_mem_cons.mpr ⟨am_c212, List.forall_mem_cons.mpr ⟨am_c213, List.forall_mem_cons.mpr ⟨am_c214, List.forall_mem_cons.mpr ⟨am_c215, List.forall_mem_cons.mpr ⟨am_c216, List.forall_mem_cons.mpr ⟨am_c217, List.forall_mem_cons.mpr ⟨am_c218, List.forall_mem_cons.mpr ⟨am_c219, List.forall_mem_cons.mpr ⟨am_c220, List.forall_mem_cons.mpr ⟨am_c221, List.forall_mem_cons.mpr ⟨am_c222, List.forall_mem_cons.mpr ⟨am_c223, List.forall_mem_cons.mpr ⟨am_c224, List.forall_mem_cons.mpr ⟨am_c225, List.forall_mem_cons.mpr ⟨am_c226, List.forall_mem_cons.mpr ⟨am_c227, List.forall_mem_cons.mpr ⟨am_c228, List.forall_mem_cons.mpr ⟨am_c229, List.forall_mem_cons.mpr ⟨am_c230, List.forall_mem_cons.mpr ⟨am_c231, List.forall_mem_cons.mpr ⟨am_c232, List.forall_mem_cons.mpr ⟨am_c233, List.forall_mem_cons.mpr ⟨am_c234, List.forall_mem_cons.mpr ⟨am_c235, List.forall_mem_cons.mpr ⟨am_c236, List.forall_mem_cons.mpr ⟨am_c237, List.forall_mem_cons.mpr ⟨am_c238, List.forall_mem_cons.mpr ⟨am_c239, fun _ h => absurd h List.not_mem_nil⟩⟩⟩⟩⟩⟩⟩⟩⟩⟩⟩⟩⟩⟩⟩⟩⟩⟩⟩⟩⟩⟩⟩⟩⟩⟩⟩⟩⟩⟩⟩⟩⟩⟩⟩⟩⟩⟩⟩⟩⟩⟩⟩⟩⟩⟩⟩⟩
theorem am_cc5 : ∀ y ∈ ([240, 241, 242, 243, 244, 245, 246, 247, 248, 249, 250, 251, 252, 253, 254, 255, 256, 257, 258, 259, 260, 261, 262, 263, 264, 265, 266, 267, 268, 269, 270, 271, 272, 273, 274, 275, 276, 277, 278, 279, 280, 281, 282, 283, 284, 285, 286, 287] : List Nat), Cond.code (am_yN y) (am_cN y) (am_M y) (am_rN y) ∈ am_T := List.forall_mem_cons.mpr ⟨am_c240, List.forall_mem_cons.mpr ⟨am_c241, List.forall_mem_cons.mpr ⟨am_c242, List.forall_mem_cons.mpr ⟨am_c243, List.forall_mem_cons.mpr ⟨am_c244, List.forall_mem_cons.mpr ⟨am_c245, List.forall_mem_cons.mpr ⟨am_c246, List.forall_mem_cons.mpr ⟨am_c247, List.forall_mem_cons.mpr ⟨am_c248, List.forall_mem_cons.mpr ⟨am_c249, List.forall_mem_cons.mpr ⟨am_c250, List.forall_mem_cons.mpr ⟨am_c251, List.forall_mem_cons.mpr ⟨am_c252, List.forall_mem_cons.mpr ⟨am_c253, List.forall_mem_cons.mpr ⟨am_c254, List.forall_mem_cons.mpr ⟨am_c255, List.forall_mem_cons.mpr ⟨am_c256, List.forall_mem_cons.mpr ⟨am_c257, List.forall_mem_cons.mpr ⟨am_c258, List.forall_mem_cons.mpr ⟨am_c259, List.forall_mem_cons.mpr ⟨am_c260, List.forall_mem_cons.mpr ⟨am_c261, List.forall_mem_cons.mpr ⟨am_c262, List.forall_mem_cons.mpr ⟨am_c263, List.forall_mem_cons.mpr ⟨am_c264, List.forall_mem_cons.mpr ⟨am_c265, List.forall_mem_cons.mpr ⟨am_c266, List.forall_mem_cons.mpr ⟨am_c267, List.forall_mem_cons.mpr ⟨am_c268, List.forall_mem_cons.mpr ⟨am_c269, List.forall_mem_cons.mpr ⟨am_c270, List.forall_mem_cons.mpr ⟨am_c271, List.forall_mem_cons.mpr ⟨am_c272, List.forall_mem_cons.mpr ⟨am_c273, List.forall_mem_cons.mpr ⟨am_c274, List.forall_mem_cons.mpr ⟨am_c275, List.forall_mem_cons.mpr ⟨am_c276, List.forall_mem_cons.mpr ⟨am_c277, List.forall_mem_cons.mpr ⟨am_c278, List.forall_mem_cons.mpr ⟨am_c279, List.forall_mem_cons.mpr ⟨am_c280, List.forall_mem_cons.mpr ⟨am_c281, List.forall_mem_cons.mpr ⟨am_c282, List.forall_mem_cons.mpr ⟨am_c283, List.forall_mem_cons.mpr ⟨am_c284, List.forall_mem_cons.mpr ⟨am_c285, List.forall_mem_cons.mpr ⟨am_c286, List.forall_mem_cons.mpr ⟨am_c287, fun _ h => absurd h List.not_mem_nil⟩⟩⟩⟩⟩⟩⟩⟩⟩⟩⟩⟩⟩⟩⟩⟩⟩⟩⟩⟩⟩⟩⟩⟩⟩⟩⟩⟩⟩⟩⟩⟩⟩⟩⟩⟩⟩⟩⟩⟩⟩⟩⟩⟩⟩⟩⟩⟩
theorem am_code : ∀ y, y < 288 → Cond.code (am_yN y) (am_cN y) (am_M y) (am_rN y) ∈ am_T := by
  intro y h
  have key : ∀ y, y < 288 → y ∈ ([0, 1, 2, 3, 4, 5, 6, 7, 8, 9, 10, 11, 12, 13, 14, 15, 16, 17, 18, 19, 20, 21, 22, 23, 24, 25, 26, 27, 28, 29, 30, 31, 32, 33, 34, 35, 36, 37, 38, 39, 40, 41, 42, 43, 44, 45, 46, 47] : List Nat) ∨ y ∈ ([48, 49, 50, 51, 52, 53, 54, 55, 56, 57, 58, 59, 60, 61, 62, 63, 64, 65, 66, 67, 68, 69, 70, 71, 72, 73, 74, 75, 76, 77, 78, 79, 80, 81, 82, 83, 84, 85, 86, 87, 88, 89, 90, 91, 92, 93, 94, 95] : List Nat) ∨ y ∈ ([96, 97, 98, 99, 100, 101, 102, 103, 104, 105, 106, 107, 108, 109, 110, 111, 112, 113, 114, 115, 116, 117, 118, 119, 120, 121, 122, 123, 124, 125, 126, 127, 128, 129, 130, 131, 132, 133, 134, 135, 136, 137, 138, 139, 140, 141, 142, 143] : List Nat) ∨ y ∈ ([144, 145, 146, 147, 148, 149, 150, 151, 152, 153, 154, 155, 156, 157, 158, 159, 160, 161, 162, 163, 164, 165, 166, 167, 168, 169, 170, 171, 172, 173, 174, 175, 176, 177, 178, 179, 180, 181, 182, 183, 184, 185, 186, 187, 188, 189, 190, 191] : List Nat) ∨ y ∈ ([192, 193, 194, 195, 196, 197, 198, 199, 200, 201, 202, 203, 204, 205, 206, 207, 208, 209, 210, 211, 212, 213, 214, 215, 216, 217, 218, 219, 220, 221, 222, 223, 224, 225, 226, 227, 228, 229, 230, 231, 232, 233, 234, 235, 236, 237, 238, 239] : List Nat) ∨ y ∈ ([240, 241, 242, 243, 244, 245, 246, 247, 248, 249, 250, 251, 252, 253, 254, 255, 256, 257, 258, 259, 260, 261, 262, 263, 264, 265, 266, 267, 268, 269, 270, 271, 272, 273, 274, 275, 276, 277, 278, 279, 280, 281, 282, 283, 284, 285, 286, 287] : List Nat) := by decide +kernel
  rcases key y h with g | g | g | g | g | g
  · exact am_cc0 y g
  · exact am_cc1 y g
  · exact am_cc2 y g
  · exact am_cc3 y g
  · exact am_cc4 y g
  · exact am_cc5 y g
theorem am_meth : ∀ y, y < 288 → (am_yN y).cls = am_ON (am_kn y) ∧ am_kn y ∈ am_IZ ∧ plainName (am_yN y).cls = true ∧ (am_yN y).cls ≠ "java/lang/invoke/MethodHandle" ∧ (am_yN y).cls ≠ "java/lang/invoke/VarHandle" ∧ (parseMethodDescriptor (am_yN y).desc).map (fun d => d.parameters.length) = some (am_np y) ∧ am_M y ≤ 40 := by decide +kernel
theorem am_mi_of {y : Nat} (h : y < 288) : am_mi (am_wsM y) (am_yN y) (am_cN y) (am_M y) (am_rN y) (am_np y) := by
  obtain ⟨a, b, -, d, e, f, g⟩ := am_meth y h
  exact ⟨rfl, am_code y h, by rw [a]; exact am_IZ_ok _ b, d, e, f, g⟩
