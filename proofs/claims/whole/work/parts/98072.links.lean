/-! ===== links by numbers, facts of methods, by program ===== -/
def am_wsM (y : Nat) : List Cond := Cond.code (am_yN y) (am_cN y) (am_M y) (am_rN y) :: am_T
/-- what the tables say of a method -/
def am_mi (w : List Cond) (y : MethodName) (b : ByteArray) (n : Nat) (r : Option FieldType) (np : Nat) : Prop :=
  w = Cond.code y b n r :: am_T ∧ Cond.code y b n r ∈ am_T ∧ Cond.initialized y.cls ∈ am_T ∧ y.cls ≠ "java/lang/invoke/MethodHandle" ∧ y.cls ≠ "java/lang/invoke/VarHandle" ∧ (parseMethodDescriptor y.desc).map (fun d => d.parameters.length) = some np ∧ n ≤ 40
theorem am_mi_good {w : List Cond} {y : MethodName} {b : ByteArray} {n np : Nat} {r : Option FieldType} (h : am_mi w y b n r np) : GoodIn am_T w := by
  intro z hz
  rw [h.1] at hz
  have : z ∈ am_T := (List.mem_cons.mp hz).elim (fun e => by rw [e]; exact h.2.1) id
  exact ⟨this, am_T_good this⟩
def am_KIw (q : Nat × Nat × Int) : Cond := .constant (am_ON q.1) q.2.1 (Int32.ofInt q.2.2)
def am_KI_3_0 : List (Nat × Nat × Int) := [(3, 22, (-2000000000)), (9, 46, (-2000000000))]
theorem am_KI_3_0_ok : ∀ q ∈ am_KI_3_0, am_KIw q ∈ am_T := fun q h => am_g3 [20, 37] (am_KI_3_0.map am_KIw) (by decide +kernel) (by decide +kernel) _ (List.mem_map.mpr ⟨q, h, rfl⟩)
def am_KI_4_0 : List (Nat × Nat × Int) := [(5, 89, (-2000000000))]
theorem am_KI_4_0_ok : ∀ q ∈ am_KI_4_0, am_KIw q ∈ am_T := fun q h => am_g4 [123] (am_KI_4_0.map am_KIw) (by decide +kernel) (by decide +kernel) _ (List.mem_map.mpr ⟨q, h, rfl⟩)
def am_KI_5_0 : List (Nat × Nat × Int) := [(14, 265, 1431655765), (14, 266, 858993459), (14, 267, 252645135), (11, 341, 1000000), (6, 90, 1000003)]
theorem am_KI_5_0_ok : ∀ q ∈ am_KI_5_0, am_KIw q ∈ am_T := fun q h => am_g5 [122, 123, 124, 181, 191] (am_KI_5_0.map am_KIw) (by decide +kernel) (by decide +kernel) _ (List.mem_map.mpr ⟨q, h, rfl⟩)
def am_KI_8_0 : List (Nat × Nat × Int) := [(12, 503, 100000000)]
theorem am_KI_8_0_ok : ∀ q ∈ am_KI_8_0, am_KIw q ∈ am_T := fun q h => am_g8 [132] (am_KI_8_0.map am_KIw) (by decide +kernel) (by decide +kernel) _ (List.mem_map.mpr ⟨q, h, rfl⟩)
def am_KI : List (Nat × Nat × Int) := am_KI_3_0 ++ am_KI_4_0 ++ am_KI_5_0 ++ am_KI_8_0
theorem am_KI_ok : ∀ q ∈ am_KI, am_KIw q ∈ am_T := by
  intro q h
  simp only [am_KI, List.mem_append, or_assoc] at h
  rcases h with h | h | h | h
  · exact am_KI_3_0_ok q h
  · exact am_KI_4_0_ok q h
  · exact am_KI_5_0_ok q h
  · exact am_KI_8_0_ok q h
def am_KLw (q : Nat × Nat × Int) : Cond := .constantLong (am_ON q.1) q.2.1 (Int64.ofInt q.2.2)
def am_KL_3_0 : List (Nat × Nat × Int) := [(9, 57, (-2000000000)), (9, 59, 1000000000), (9, 61, (-1000000000))]
theorem am_KL_3_0_ok : ∀ q ∈ am_KL_3_0, am_KLw q ∈ am_T := fun q h => am_g3 [44, 45, 46] (am_KL_3_0.map am_KLw) (by decide +kernel) (by decide +kernel) _ (List.mem_map.mpr ⟨q, h, rfl⟩)
def am_KL_5_0 : List (Nat × Nat × Int) := [(11, 331, (-1)), (11, 333, 1000000000000), (11, 335, 10), (12, 57, 3554980), (12, 59, 370116), (12, 61, 591077), (12, 63, 2552), (12, 65, 212363), (12, 67, 12009203), (12, 69, 23732), (12, 71, 14982420), (12, 73, 441828), (12, 79, 146885)]
theorem am_KL_5_0_ok : ∀ q ∈ am_KL_5_0, am_KLw q ∈ am_T := fun q h => am_g5 [166, 167, 168, 230, 231, 232, 233, 234, 235, 236, 237, 238, 239] (am_KL_5_0.map am_KLw) (by decide +kernel) (by decide +kernel) _ (List.mem_map.mpr ⟨q, h, rfl⟩)
def am_KL_6_0 : List (Nat × Nat × Int) := [(12, 81, 404362868), (12, 83, 407947732), (12, 85, 653307044), (12, 87, 52), (12, 89, 87673), (12, 94, 21148051), (12, 96, 20415859), (12, 98, 244915), (12, 100, 67155), (12, 138, 599495), (12, 140, 182682853), (12, 142, 20350568), (12, 144, 525939), (12, 208, 4), (12, 210, 9), (12, 191, 5)]
theorem am_KL_6_0_ok : ∀ q ∈ am_KL_6_0, am_KLw q ∈ am_T := fun q h => am_g6 [0, 1, 2, 3, 4, 5, 6, 7, 8, 9, 10, 11, 12, 222, 223, 227] (am_KL_6_0.map am_KLw) (by decide +kernel) (by decide +kernel) _ (List.mem_map.mpr ⟨q, h, rfl⟩)
def am_KL_7_0 : List (Nat × Nat × Int) := [(12, 294, (-1)), (12, 425, (-1000000000)), (12, 427, 1000000000), (12, 222, 31), (12, 227, 2), (12, 246, 7), (12, 248, 999), (12, 250, 10), (12, 290, 32), (12, 292, 96), (12, 296, 1000000), (12, 298, 48), (12, 363, 14836), (12, 353, 1000), (12, 317, 20), (12, 319, 24), (12, 321, 25), (12, 323, 27)]
theorem am_KL_7_0_ok : ∀ q ∈ am_KL_7_0, am_KLw q ∈ am_T := fun q h => am_g7 [4, 25, 26, 35, 44, 94, 99, 100, 151, 152, 153, 154, 175, 200, 232, 233, 234, 235] (am_KL_7_0.map am_KLw) (by decide +kernel) (by decide +kernel) _ (List.mem_map.mpr ⟨q, h, rfl⟩)
def am_KL_8_0 : List (Nat × Nat × Int) := [(12, 378, 1476), (12, 380, 498), (12, 401, 294), (12, 479, 60), (12, 519, 99), (12, 521, 1000000000000), (12, 526, 655), (12, 528, 21279923), (12, 560, 1103), (12, 562, 12345), (12, 564, 1000003), (12, 569, 15), (12, 571, 17)]
theorem am_KL_8_0_ok : ∀ q ∈ am_KL_8_0, am_KLw q ∈ am_T := fun q h => am_g8 [0, 1, 2, 67, 175, 176, 189, 190, 223, 224, 225, 234, 235] (am_KL_8_0.map am_KLw) (by decide +kernel) (by decide +kernel) _ (List.mem_map.mpr ⟨q, h, rfl⟩)
def am_KL : List (Nat × Nat × Int) := am_KL_3_0 ++ am_KL_5_0 ++ am_KL_6_0 ++ am_KL_7_0 ++ am_KL_8_0
theorem am_KL_ok : ∀ q ∈ am_KL, am_KLw q ∈ am_T := by
  intro q h
  simp only [am_KL, List.mem_append, or_assoc] at h
  rcases h with h | h | h | h | h
  · exact am_KL_3_0_ok q h
  · exact am_KL_5_0_ok q h
  · exact am_KL_6_0_ok q h
  · exact am_KL_7_0_ok q h
  · exact am_KL_8_0_ok q h
def am_MLw (q : Nat × Nat × Nat) : Cond := .methodLink (am_ON q.1) q.2.1 (am_yN q.2.2)
def am_ML_1_0 : List (Nat × Nat × Nat) := [(13, 9, 106), (11, 40, 21), (11, 49, 49)]
theorem am_ML_1_0_ok : ∀ q ∈ am_ML_1_0, am_MLw q ∈ am_T := fun q h => am_g1 [23, 205, 223] (am_ML_1_0.map am_MLw) (by decide +kernel) (by decide +kernel) _ (List.mem_map.mpr ⟨q, h, rfl⟩)
def am_ML_2_0 : List (Nat × Nat × Nat) := [(11, 58, 0), (11, 67, 53), (6, 30, 21), (7, 11, 89), (13, 13, 107), (11, 95, 157), (11, 99, 158), (11, 103, 152), (11, 110, 43), (11, 113, 12), (11, 117, 153)]
theorem am_ML_2_0_ok : ∀ q ∈ am_ML_2_0, am_MLw q ∈ am_T := fun q h => am_g2 [20, 42, 51, 77, 214, 218, 221, 224, 228, 232, 236] (am_ML_2_0.map am_MLw) (by decide +kernel) (by decide +kernel) _ (List.mem_map.mpr ⟨q, h, rfl⟩)
def am_ML_3_0 : List (Nat × Nat × Nat) := [(13, 18, 108), (11, 120, 15), (11, 132, 33), (3, 18, 38), (3, 86, 17), (3, 93, 39), (3, 115, 16), (3, 27, 18), (3, 108, 96), (9, 53, 97), (3, 45, 34), (3, 60, 75), (13, 23, 109), (11, 139, 13), (13, 27, 110), (11, 143, 16), (13, 31, 111), (11, 161, 30), (3, 23, 32), (11, 165, 31), (11, 168, 37), (3, 75, 78), (3, 79, 80), (8, 31, 79), (13, 35, 112), (11, 172, 159), (11, 180, 75), (11, 185, 76), (13, 39, 113), (11, 192, 78), (11, 196, 79), (13, 43, 114), (13, 47, 115), (11, 208, 156), (13, 52, 116), (13, 57, 117), (13, 62, 118), (13, 66, 119), (11, 218, 62), (7, 27, 91), (7, 30, 99), (10, 28, 100), (10, 34, 101), (7, 45, 65), (7, 62, 104), (7, 66, 63), (7, 69, 100), (7, 76, 92), (7, 84, 93)]
theorem am_ML_3_0_ok : ∀ q ∈ am_ML_3_0, am_MLw q ∈ am_T := fun q h => am_g3 [0, 4, 8, 12, 16, 21, 25, 29, 33, 41, 47, 51, 55, 59, 63, 67, 68, 72, 76, 83, 87, 91, 95, 99, 103, 107, 110, 111, 115, 119, 120, 121, 127, 131, 135, 139, 143, 147, 151, 155, 159, 164, 168, 172, 178, 230, 234, 235, 239] (am_ML_3_0.map am_MLw) (by decide +kernel) (by decide +kernel) _ (List.mem_map.mpr ⟨q, h, rfl⟩)
def am_ML_4_0 : List (Nat × Nat × Nat) := [(7, 88, 70), (7, 142, 71), (7, 147, 72), (7, 100, 103), (10, 41, 104), (7, 55, 64), (7, 116, 105), (7, 91, 94), (7, 160, 73), (7, 94, 66), (7, 106, 67), (7, 121, 68), (7, 129, 69), (7, 126, 95), (7, 49, 102), (11, 230, 90), (9, 37, 89), (13, 70, 120), (11, 239, 50), (5, 45, 11), (1, 62, 77), (5, 52, 48), (5, 69, 51), (5, 73, 52), (5, 114, 20), (5, 121, 15), (5, 128, 16), (5, 79, 96), (5, 93, 22), (2, 23, 15), (2, 29, 16), (2, 32, 37), (2, 42, 31), (2, 46, 30), (2, 55, 41), (5, 97, 23), (5, 101, 24), (5, 104, 25), (2, 86, 26), (2, 90, 35), (13, 74, 121), (13, 78, 122), (13, 82, 123), (11, 246, 17), (13, 86, 124), (11, 252, 22), (11, 255, 154), (13, 90, 125), (11, 258, 23), (13, 94, 126), (11, 261, 24), (13, 98, 127), (11, 264, 25), (13, 102, 128), (11, 267, 27), (2, 100, 45), (4, 32, 44), (2, 103, 46), (2, 106, 47), (2, 109, 28)]
theorem am_ML_4_0_ok : ∀ q ∈ am_ML_4_0, am_MLw q ∈ am_T := fun q h => am_g4 [3, 7, 11, 16, 20, 22, 26, 32, 36, 42, 49, 53, 57, 66, 71, 76, 81, 85, 89, 93, 97, 103, 108, 112, 116, 120, 121, 122, 124, 128, 129, 130, 131, 132, 133, 139, 143, 148, 153, 157, 161, 165, 169, 173, 174, 178, 179, 183, 187, 188, 192, 193, 197, 198, 202, 206, 210, 214, 218, 222] (am_ML_4_0.map am_MLw) (by decide +kernel) (by decide +kernel) _ (List.mem_map.mpr ⟨q, h, rfl⟩)
def am_ML_4_1 : List (Nat × Nat × Nat) := [(2, 113, 42), (13, 106, 129), (11, 270, 54), (6, 37, 11), (6, 41, 35)]
theorem am_ML_4_1_ok : ∀ q ∈ am_ML_4_1, am_MLw q ∈ am_T := fun q h => am_g4 [226, 230, 234, 238, 239] (am_ML_4_1.map am_MLw) (by decide +kernel) (by decide +kernel) _ (List.mem_map.mpr ⟨q, h, rfl⟩)
def am_ML_5_0 : List (Nat × Nat × Nat) := [(13, 110, 130), (11, 273, 55), (13, 114, 131), (11, 277, 56), (13, 118, 132), (11, 280, 57), (13, 122, 133), (11, 284, 1), (0, 28, 2), (0, 54, 37), (0, 60, 30), (0, 38, 3), (11, 287, 4), (0, 64, 1), (13, 126, 134), (11, 293, 14), (13, 130, 135), (13, 134, 136), (11, 297, 6), (0, 77, 5), (0, 68, 36), (13, 138, 137), (11, 300, 7), (0, 83, 6), (0, 86, 8), (13, 142, 138), (11, 304, 85), (8, 53, 86), (8, 57, 75), (11, 310, 87), (8, 60, 88), (13, 146, 139), (11, 313, 81), (8, 35, 78), (8, 39, 287), (8, 45, 80), (11, 316, 155), (11, 368, 287), (13, 150, 140), (11, 319, 19), (11, 322, 82), (8, 49, 83), (13, 154, 141), (11, 325, 84), (13, 158, 142), (11, 328, 9), (13, 162, 143), (13, 167, 144), (11, 337, 58), (13, 171, 145), (11, 342, 59), (6, 66, 60), (6, 73, 22), (6, 77, 23), (6, 83, 24), (6, 86, 25), (13, 175, 146), (13, 179, 147), (11, 348, 11), (13, 183, 148)]
theorem am_ML_5_0_ok : ∀ q ∈ am_ML_5_0, am_MLw q ∈ am_T := fun q h => am_g5 [0, 4, 8, 12, 16, 20, 24, 28, 32, 36, 37, 38, 43, 47, 48, 52, 56, 60, 64, 68, 72, 76, 80, 84, 85, 89, 93, 97, 101, 102, 106, 110, 114, 118, 119, 125, 126, 129, 130, 134, 138, 142, 146, 150, 154, 158, 162, 169, 173, 177, 182, 187, 192, 193, 194, 195, 196, 200, 204, 205] (am_ML_5_0.map am_MLw) (by decide +kernel) (by decide +kernel) _ (List.mem_map.mpr ⟨q, h, rfl⟩)
def am_ML_5_1 : List (Nat × Nat × Nat) := [(13, 187, 149), (11, 352, 20), (11, 359, 151), (13, 191, 150), (13, 12, 160)]
theorem am_ML_5_1_ok : ∀ q ∈ am_ML_5_1, am_MLw q ∈ am_T := fun q h => am_g5 [209, 213, 214, 220, 226] (am_ML_5_1.map am_MLw) (by decide +kernel) (by decide +kernel) _ (List.mem_map.mpr ⟨q, h, rfl⟩)
def am_ML_6_0 : List (Nat × Nat × Nat) := [(13, 105, 171), (12, 173, 165), (12, 181, 169), (13, 182, 172), (12, 184, 161), (13, 186, 173), (12, 188, 167), (13, 17, 182), (12, 212, 176), (13, 22, 183), (12, 216, 174), (12, 219, 235)]
theorem am_ML_6_0_ok : ∀ q ∈ am_ML_6_0, am_MLw q ∈ am_T := fun q h => am_g6 [191, 195, 199, 203, 207, 210, 214, 218, 224, 228, 232, 236] (am_ML_6_0.map am_MLw) (by decide +kernel) (by decide +kernel) _ (List.mem_map.mpr ⟨q, h, rfl⟩)
def am_ML_7_0 : List (Nat × Nat × Nat) := [(12, 444, 231), (12, 438, 230), (12, 441, 229), (12, 432, 228), (12, 224, 175), (12, 421, 227), (12, 197, 177), (13, 26, 184), (13, 30, 185), (13, 34, 186), (12, 229, 232), (12, 448, 164), (12, 232, 233), (12, 235, 236), (12, 452, 180), (12, 201, 179), (12, 205, 178), (12, 193, 162), (12, 455, 234), (13, 38, 189), (12, 238, 187), (12, 242, 188), (13, 42, 190), (13, 46, 191), (12, 252, 166), (13, 61, 192), (13, 65, 193), (13, 51, 195), (12, 261, 194), (13, 56, 196), (13, 77, 205), (13, 69, 224), (12, 403, 221), (12, 392, 199), (12, 271, 200), (12, 281, 197), (12, 284, 198), (12, 406, 223), (12, 325, 201), (12, 300, 203), (12, 398, 220), (12, 382, 217), (12, 332, 207), (12, 338, 202), (12, 341, 214), (12, 365, 216), (12, 347, 213), (12, 350, 212), (12, 355, 215), (12, 313, 206), (12, 359, 204), (12, 385, 218), (12, 310, 208), (12, 368, 209), (12, 371, 210), (12, 374, 211), (12, 389, 219)]
theorem am_ML_7_0_ok : ∀ q ∈ am_ML_7_0, am_MLw q ∈ am_T := fun q h => am_g7 [0, 5, 9, 13, 17, 21, 27, 31, 36, 40, 45, 49, 52, 56, 60, 64, 68, 72, 75, 79, 83, 86, 90, 95, 101, 105, 109, 113, 117, 121, 125, 129, 133, 137, 141, 145, 148, 155, 159, 163, 167, 171, 176, 180, 184, 188, 192, 196, 201, 205, 209, 213, 217, 220, 224, 228, 236] (am_ML_7_0.map am_MLw) (by decide +kernel) (by decide +kernel) _ (List.mem_map.mpr ⟨q, h, rfl⟩)
def am_ML_8_0 : List (Nat × Nat × Nat) := [(12, 409, 222), (13, 85, 226), (12, 412, 225), (13, 89, 239), (12, 464, 238), (12, 458, 170), (12, 177, 168), (12, 461, 237), (13, 93, 241), (12, 467, 240), (13, 97, 243), (12, 470, 242), (13, 101, 246), (12, 476, 245), (12, 473, 244), (13, 109, 247), (13, 113, 249), (12, 481, 248), (13, 117, 250), (13, 121, 252), (12, 484, 251), (13, 125, 257), (12, 497, 256), (12, 487, 254), (12, 490, 253), (12, 494, 255), (13, 170, 258), (13, 129, 259), (13, 133, 260), (13, 137, 262), (12, 500, 261), (13, 141, 263), (13, 145, 266), (12, 507, 265), (12, 504, 264), (13, 149, 267), (12, 510, 163), (13, 153, 270), (12, 513, 268), (12, 516, 269), (13, 157, 271), (13, 161, 272), (13, 166, 273), (13, 73, 279), (12, 548, 275), (12, 523, 274), (12, 551, 278), (12, 539, 181), (12, 542, 276), (12, 545, 277), (12, 554, 280), (13, 81, 281), (13, 174, 283), (12, 566, 282), (13, 178, 284), (13, 190, 285), (13, 194, 286)]
theorem am_ML_8_0_ok : ∀ q ∈ am_ML_8_0, am_MLw q ∈ am_T := fun q h => am_g8 [3, 7, 11, 15, 19, 23, 27, 31, 35, 39, 43, 47, 51, 55, 59, 63, 68, 72, 76, 80, 84, 88, 92, 96, 100, 104, 108, 112, 116, 120, 124, 128, 133, 137, 141, 145, 149, 152, 156, 160, 163, 167, 171, 177, 181, 185, 191, 195, 199, 203, 207, 211, 215, 219, 226, 230, 236] (am_ML_8_0.map am_MLw) (by decide +kernel) (by decide +kernel) _ (List.mem_map.mpr ⟨q, h, rfl⟩)
def am_ML : List (Nat × Nat × Nat) := am_ML_1_0 ++ am_ML_2_0 ++ am_ML_3_0 ++ am_ML_4_0 ++ am_ML_4_1 ++ am_ML_5_0 ++ am_ML_5_1 ++ am_ML_6_0 ++ am_ML_7_0 ++ am_ML_8_0
theorem am_ML_ok : ∀ q ∈ am_ML, am_MLw q ∈ am_T := by
  intro q h
  simp only [am_ML, List.mem_append, or_assoc] at h
  rcases h with h | h | h | h | h | h | h | h | h | h
  · exact am_ML_1_0_ok q h
  · exact am_ML_2_0_ok q h
  · exact am_ML_3_0_ok q h
  · exact am_ML_4_0_ok q h
  · exact am_ML_4_1_ok q h
  · exact am_ML_5_0_ok q h
  · exact am_ML_5_1_ok q h
  · exact am_ML_6_0_ok q h
  · exact am_ML_7_0_ok q h
  · exact am_ML_8_0_ok q h
def am_CKw (q : Nat × Nat × Nat) : Cond := .classLink (am_ON q.1) q.2.1 (am_RN q.2.2)
def am_CK_1_0 : List (Nat × Nat × Nat) := [(13, 7, 11), (11, 9, 1), (1, 9, 8), (1, 52, 9), (11, 24, 4), (11, 31, 3), (11, 38, 2), (11, 47, 5), (5, 9, 1), (5, 18, 4)]
theorem am_CK_1_0_ok : ∀ q ∈ am_CK_1_0, am_CKw q ∈ am_T := fun q h => am_g1 [21, 29, 35, 58, 165, 190, 203, 221, 227, 229] (am_CK_1_0.map am_CKw) (by decide +kernel) (by decide +kernel) _ (List.mem_map.mpr ⟨q, h, rfl⟩)
def am_CK_2_0 : List (Nat × Nat × Nat) := [(11, 56, 0), (11, 65, 6), (6, 9, 1), (6, 25, 2), (6, 27, 4), (11, 72, 7), (7, 9, 9), (7, 20, 10)]
theorem am_CK_2_0_ok : ∀ q ∈ am_CK_2_0, am_CKw q ∈ am_T := fun q h => am_g2 [18, 40, 46, 48, 49, 69, 75, 120] (am_CK_2_0.map am_CKw) (by decide +kernel) (by decide +kernel) _ (List.mem_map.mpr ⟨q, h, rfl⟩)
def am_CK_4_0 : List (Nat × Nat × Nat) := [(9, 10, 9)]
theorem am_CK_4_0_ok : ∀ q ∈ am_CK_4_0, am_CKw q ∈ am_T := fun q h => am_g4 [80] (am_CK_4_0.map am_CKw) (by decide +kernel) (by decide +kernel) _ (List.mem_map.mpr ⟨q, h, rfl⟩)
def am_CK_5_0 : List (Nat × Nat × Nat) := [(13, 10, 12)]
theorem am_CK_5_0_ok : ∀ q ∈ am_CK_5_0, am_CKw q ∈ am_T := fun q h => am_g5 [224] (am_CK_5_0.map am_CKw) (by decide +kernel) (by decide +kernel) _ (List.mem_map.mpr ⟨q, h, rfl⟩)
def am_CK : List (Nat × Nat × Nat) := am_CK_1_0 ++ am_CK_2_0 ++ am_CK_4_0 ++ am_CK_5_0
theorem am_CK_ok : ∀ q ∈ am_CK, am_CKw q ∈ am_T := by
  intro q h
  simp only [am_CK, List.mem_append, or_assoc] at h
  rcases h with h | h | h | h
  · exact am_CK_1_0_ok q h
  · exact am_CK_2_0_ok q h
  · exact am_CK_4_0_ok q h
  · exact am_CK_5_0_ok q h
def am_OIw (q : Nat × Nat) : Cond := .methodLink (am_ON q.1) q.2 objectInit
def am_OI_1_0 : List (Nat × Nat) := [(11, 3), (1, 3), (8, 3), (4, 1), (3, 3), (2, 3), (5, 3)]
theorem am_OI_1_0_ok : ∀ q ∈ am_OI_1_0, am_OIw q ∈ am_T := fun q h => am_g1 [26, 34, 40, 170, 195, 208, 226] (am_OI_1_0.map am_OIw) (by decide +kernel) (by decide +kernel) _ (List.mem_map.mpr ⟨q, h, rfl⟩)
def am_OI_2_0 : List (Nat × Nat) := [(0, 3), (6, 3), (7, 3), (9, 3), (10, 3)]
theorem am_OI_2_0_ok : ∀ q ∈ am_OI_2_0, am_OIw q ∈ am_T := fun q h => am_g2 [23, 45, 74, 80, 125] (am_OI_2_0.map am_OIw) (by decide +kernel) (by decide +kernel) _ (List.mem_map.mpr ⟨q, h, rfl⟩)
def am_OI_5_0 : List (Nat × Nat) := [(12, 1)]
theorem am_OI_5_0_ok : ∀ q ∈ am_OI_5_0, am_OIw q ∈ am_T := fun q h => am_g5 [229] (am_OI_5_0.map am_OIw) (by decide +kernel) (by decide +kernel) _ (List.mem_map.mpr ⟨q, h, rfl⟩)
def am_OI : List (Nat × Nat) := am_OI_1_0 ++ am_OI_2_0 ++ am_OI_5_0
theorem am_OI_ok : ∀ q ∈ am_OI, am_OIw q ∈ am_T := by
  intro q h
  simp only [am_OI, List.mem_append, or_assoc] at h
  rcases h with h | h | h
  · exact am_OI_1_0_ok q h
  · exact am_OI_2_0_ok q h
  · exact am_OI_5_0_ok q h
def am_MXw (q : Nat × Nat) : Cond := .methodLink (am_ON q.1) q.2 Lib.Math.max.name
def am_MX_3_0 : List (Nat × Nat) := [(9, 47), (3, 42)]
theorem am_MX_3_0_ok : ∀ q ∈ am_MX_3_0, am_MXw q ∈ am_T := fun q h => am_g3 [38, 82] (am_MX_3_0.map am_MXw) (by decide +kernel) (by decide +kernel) _ (List.mem_map.mpr ⟨q, h, rfl⟩)
def am_MX_5_0 : List (Nat × Nat) := [(0, 42)]
theorem am_MX_5_0_ok : ∀ q ∈ am_MX_5_0, am_MXw q ∈ am_T := fun q h => am_g5 [42] (am_MX_5_0.map am_MXw) (by decide +kernel) (by decide +kernel) _ (List.mem_map.mpr ⟨q, h, rfl⟩)
def am_MX : List (Nat × Nat) := am_MX_3_0 ++ am_MX_5_0
theorem am_MX_ok : ∀ q ∈ am_MX, am_MXw q ∈ am_T := by
  intro q h
  simp only [am_MX, List.mem_append, or_assoc] at h
  rcases h with h | h
  · exact am_MX_3_0_ok q h
  · exact am_MX_5_0_ok q h
def am_MIw (q : Nat × Nat) : Cond := .methodLink (am_ON q.1) q.2 Lib.Math.min.name
def am_MI_3_0 : List (Nat × Nat) := [(3, 36), (10, 15)]
theorem am_MI_3_0_ok : ∀ q ∈ am_MI_3_0, am_MIw q ∈ am_T := fun q h => am_g3 [79, 163] (am_MI_3_0.map am_MIw) (by decide +kernel) (by decide +kernel) _ (List.mem_map.mpr ⟨q, h, rfl⟩)
def am_MI_4_0 : List (Nat × Nat) := [(4, 26), (2, 61)]
theorem am_MI_4_0_ok : ∀ q ∈ am_MI_4_0, am_MIw q ∈ am_T := fun q h => am_g4 [137, 138] (am_MI_4_0.map am_MIw) (by decide +kernel) (by decide +kernel) _ (List.mem_map.mpr ⟨q, h, rfl⟩)
def am_MI : List (Nat × Nat) := am_MI_3_0 ++ am_MI_4_0
theorem am_MI_ok : ∀ q ∈ am_MI, am_MIw q ∈ am_T := by
  intro q h
  simp only [am_MI, List.mem_append, or_assoc] at h
  rcases h with h | h
  · exact am_MI_3_0_ok q h
  · exact am_MI_4_0_ok q h
def am_ACw (q : Nat × Nat) : Cond := .methodLink (am_ON q.1) q.2 arraycopyName
def am_AC_4_0 : List (Nat × Nat) := [(9, 40), (8, 21), (1, 66), (4, 36)]
theorem am_AC_4_0_ok : ∀ q ∈ am_AC_4_0, am_ACw q ∈ am_T := fun q h => am_g4 [82, 101, 102, 107] (am_AC_4_0.map am_ACw) (by decide +kernel) (by decide +kernel) _ (List.mem_map.mpr ⟨q, h, rfl⟩)
def am_AC : List (Nat × Nat) := am_AC_4_0
theorem am_AC_ok : ∀ q ∈ am_AC, am_ACw q ∈ am_T := am_AC_4_0_ok
def am_SLw (q : Nat × Nat) : Cond := .methodLink (am_ON q.1) q.2 yJ0_length_8abf5
def am_SL_3_0 : List (Nat × Nat) := [(10, 45)]
theorem am_SL_3_0_ok : ∀ q ∈ am_SL_3_0, am_SLw q ∈ am_T := fun q h => am_g3 [182] (am_SL_3_0.map am_SLw) (by decide +kernel) (by decide +kernel) _ (List.mem_map.mpr ⟨q, h, rfl⟩)
def am_SL : List (Nat × Nat) := am_SL_3_0
theorem am_SL_ok : ∀ q ∈ am_SL, am_SLw q ∈ am_T := am_SL_3_0_ok
def am_SCw (q : Nat × Nat) : Cond := .methodLink (am_ON q.1) q.2 yJ0_charAt_5068e
def am_SC_3_0 : List (Nat × Nat) := [(10, 50)]
theorem am_SC_3_0_ok : ∀ q ∈ am_SC_3_0, am_SCw q ∈ am_T := fun q h => am_g3 [192] (am_SC_3_0.map am_SCw) (by decide +kernel) (by decide +kernel) _ (List.mem_map.mpr ⟨q, h, rfl⟩)
def am_SC : List (Nat × Nat) := am_SC_3_0
theorem am_SC_ok : ∀ q ∈ am_SC, am_SCw q ∈ am_T := am_SC_3_0_ok
def am_SNm (q : Nat) : String := if q = 1 then "TERM_TOPS" else "REFUSALS"
def am_GSw (q : Nat × Nat × Nat) : Cond := .fieldLink (am_ON q.1) q.2.1 "CloudCalls" (am_SNm q.2.2) "[I"
def am_GS_3_0 : List (Nat × Nat × Nat) := [(11, 199, 1)]
theorem am_GS_3_0_ok : ∀ q ∈ am_GS_3_0, am_GSw q ∈ am_T := fun q h => am_g3 [125] (am_GS_3_0.map am_GSw) (by decide +kernel) (by decide +kernel) _ (List.mem_map.mpr ⟨q, h, rfl⟩)
def am_GS_5_0 : List (Nat × Nat × Nat) := [(11, 365, 2)]
theorem am_GS_5_0_ok : ∀ q ∈ am_GS_5_0, am_GSw q ∈ am_T := fun q h => am_g5 [218] (am_GS_5_0.map am_GSw) (by decide +kernel) (by decide +kernel) _ (List.mem_map.mpr ⟨q, h, rfl⟩)
def am_GS : List (Nat × Nat × Nat) := am_GS_3_0 ++ am_GS_5_0
theorem am_GS_ok : ∀ q ∈ am_GS, am_GSw q ∈ am_T := by
  intro q h
  simp only [am_GS, List.mem_append, or_assoc] at h
  rcases h with h | h
  · exact am_GS_3_0_ok q h
  · exact am_GS_5_0_ok q h
def am_GN : List (Nat × Nat × Nat) := [(2, 83, 1), (6, 63, 1)]
theorem am_GN_ok : ∀ q ∈ am_GN, (am_ON q.1, q.2.1, am_SNm q.2.2) ∈ am_NF := by decide +kernel
def am_MN : List (Nat × Nat × Nat) := [(11, 11, 10), (1, 11, 74), (11, 26, 40), (11, 33, 29), (5, 11, 10), (5, 20, 40), (6, 11, 10), (6, 29, 40), (11, 74, 61), (7, 22, 98), (3, 52, 158), (2, 67, 158)]
theorem am_MN_ok : ∀ q ∈ am_MN, (am_ON q.1, q.2.1, q.2.2) ∈ am_NM := by decide +kernel
def am_SN : List (Nat × Nat × Nat) := [(7, 72, 3), (7, 74, 4), (7, 152, 5), (7, 154, 6), (7, 156, 7), (7, 158, 8), (7, 150, 9), (7, 145, 10), (7, 109, 11), (7, 114, 12), (7, 98, 13), (7, 134, 14), (7, 136, 15), (7, 138, 16), (7, 140, 17), (7, 132, 18), (7, 124, 19), (7, 53, 20)]
theorem am_SN_ok : ∀ q ∈ am_SN, ∃ r ∈ am_SR, r.1 = am_ON q.1 ∧ r.2.1 = q.2.1 ∧ r.2.2.2 = q.2.2 := by decide +kernel
def am_INw (ci : Nat) : Cond := .instantiable (am_RN ci) (am_nf ci)
def am_IN_1_0 : List (Nat) := [1, 2, 3, 4, 5, 8, 11]
theorem am_IN_1_0_ok : ∀ q ∈ am_IN_1_0, am_INw q ∈ am_T := fun q h => am_g1 [30, 204, 191, 166, 222, 36, 22] (am_IN_1_0.map am_INw) (by decide +kernel) (by decide +kernel) _ (List.mem_map.mpr ⟨q, h, rfl⟩)
def am_IN_2_0 : List (Nat) := [0, 6, 7, 9, 10]
theorem am_IN_2_0_ok : ∀ q ∈ am_IN_2_0, am_INw q ∈ am_T := fun q h => am_g2 [19, 41, 70, 76, 121] (am_IN_2_0.map am_INw) (by decide +kernel) (by decide +kernel) _ (List.mem_map.mpr ⟨q, h, rfl⟩)
def am_IN_5_0 : List (Nat) := [12]
theorem am_IN_5_0_ok : ∀ q ∈ am_IN_5_0, am_INw q ∈ am_T := fun q h => am_g5 [225] (am_IN_5_0.map am_INw) (by decide +kernel) (by decide +kernel) _ (List.mem_map.mpr ⟨q, h, rfl⟩)
def am_IN : List (Nat) := am_IN_1_0 ++ am_IN_2_0 ++ am_IN_5_0
theorem am_IN_ok : ∀ q ∈ am_IN, am_INw q ∈ am_T := by
  intro q h
  simp only [am_IN, List.mem_append, or_assoc] at h
  rcases h with h | h | h
  · exact am_IN_1_0_ok q h
  · exact am_IN_2_0_ok q h
  · exact am_IN_5_0_ok q h
def am_IZw (ci : Nat) : Cond := .initialized (am_ON ci)
def am_IZ_1_0 : List (Nat) := [0, 1, 2, 3, 4, 5, 6, 7, 8, 9, 10, 11, 12, 13, 14]
theorem am_IZ_1_0_ok : ∀ q ∈ am_IZ_1_0, am_IZw q ∈ am_T := fun q h => am_g1 [8, 2, 6, 5, 4, 7, 9, 10, 3, 11, 12, 1, 13, 0, 20] (am_IZ_1_0.map am_IZw) (by decide +kernel) (by decide +kernel) _ (List.mem_map.mpr ⟨q, h, rfl⟩)
def am_IZ : List (Nat) := am_IZ_1_0
theorem am_IZ_ok : ∀ q ∈ am_IZ, am_IZw q ∈ am_T := am_IZ_1_0_ok
theorem am_ax_int : Cond.arrayClass .int ∈ am_T := am_T_of (am_s1 (List.mem_of_getElem? (i := 57) (by decide +kernel))) (by decide +kernel)
theorem am_ax_byte : Cond.arrayClass .byte ∈ am_T := am_T_of (am_s2 (List.mem_of_getElem? (i := 143) (by decide +kernel))) (by decide +kernel)
theorem am_ax_boolean : Cond.arrayClass .boolean ∈ am_T := am_T_of (am_s1 (List.mem_of_getElem? (i := 189) (by decide +kernel))) (by decide +kernel)
theorem am_ax_long : Cond.arrayClass .long ∈ am_T := am_T_of (am_s2 (List.mem_of_getElem? (i := 213) (by decide +kernel))) (by decide +kernel)
theorem am_x_oi : Cond.instanceMethod objectInit ∈ am_T := am_T_of (am_s1 (List.mem_of_getElem? (i := 27) (by decide +kernel))) (by decide +kernel)
theorem am_x_oc : Cond.code objectInit ⟨#[0xb1]⟩ 1 none ∈ am_T := am_T_of (am_s1 (List.mem_of_getElem? (i := 28) (by rfl))) (by decide +kernel)
theorem am_x_maxs : Cond.static Lib.Math.max.name ∈ am_T := am_T_of (am_s3 (List.mem_of_getElem? (i := 39) (by decide +kernel))) (by decide +kernel)
theorem am_x_maxc : Cond.code Lib.Math.max.name Lib.Math.max.code 2 (some .int) ∈ am_T := am_T_of (am_s3 (List.mem_of_getElem? (i := 40) (by rfl))) (by decide +kernel)
theorem am_x_mins : Cond.static Lib.Math.min.name ∈ am_T := am_T_of (am_s3 (List.mem_of_getElem? (i := 80) (by decide +kernel))) (by decide +kernel)
theorem am_x_minc : Cond.code Lib.Math.min.name Lib.Math.min.code 2 (some .int) ∈ am_T := am_T_of (am_s3 (List.mem_of_getElem? (i := 81) (by rfl))) (by decide +kernel)
theorem am_x_mi : Cond.initialized "java/lang/Math" ∈ am_T := am_T_of (am_s1 (List.mem_of_getElem? (i := 14) (by decide +kernel))) (by decide +kernel)
theorem am_x_acs : Cond.static arraycopyName ∈ am_T := am_T_of (am_s4 (List.mem_of_getElem? (i := 83) (by decide +kernel))) (by decide +kernel)
theorem am_x_acn : Cond.native arraycopyName ∈ am_T := am_T_of (am_s4 (List.mem_of_getElem? (i := 84) (by decide +kernel))) (by decide +kernel)
theorem am_x_aci : Cond.initialized "java/lang/System" ∈ am_T := am_T_of (am_s1 (List.mem_of_getElem? (i := 19) (by decide +kernel))) (by decide +kernel)
def am_np (y : Nat) : Nat := ([1, 1, 1, 3, 2, 3, 1, 2, 3, 2, 0, 1, 3, 2, 2, 1, 1, 1, 2, 0, 1, 3, 2, 1, 1, 0, 0, 0, 1, 0, 3, 3, 1, 2, 3, 1, 3, 3, 4, 3, 0, 3, 0, 0, 0, 0, 0, 0, 1, 1, 1, 2, 0, 1, 3, 3, 3, 1, 2, 3, 1, 0, 3, 0, 1, 1, 2, 1, 1, 1, 1, 1, 1, 2, 0, 2, 3, 1, 0, 2, 3, 2, 1, 1, 0, 1, 2, 3, 1, 2, 0, 0, 1, 0, 2, 1, 3, 3, 0, 2, 0, 1, 0, 1, 1, 0, 0, 3, 2, 2, 2, 3, 3, 2, 2, 5, 1, 0, 0, 0, 0, 0, 0, 1, 2, 1, 1, 0, 0, 2, 2, 2, 0, 1, 2, 0, 0, 1, 3, 3, 1, 0, 1, 2, 1, 2, 2, 1, 1, 1, 0, 1, 1, 1, 1, 2, 1, 2, 1, 3, 0, 3, 2, 1, 3, 1, 2, 1, 1, 1, 1, 0, 1, 1, 1, 1, 1, 2, 2, 0, 2, 1, 3, 2, 2, 2, 3, 3, 3, 3, 2, 2, 0, 0, 1, 5, 1, 1, 1, 0, 0, 1, 1, 1, 2, 0, 2, 2, 1, 1, 0, 0, 0, 0, 1, 3, 0, 0, 1, 0, 1, 1, 0, 0, 0, 1, 1, 3, 2, 1, 2, 4, 2, 2, 2, 1, 2, 2, 2, 2, 1, 1, 1, 1, 0, 0, 0, 2, 1, 2, 2, 0, 0, 3, 0, 3, 0, 1, 1, 2, 0, 0, 0, 1, 2, 1, 3, 3, 0, 1, 1, 0, 1, 2, 1, 0, 1, 3, 1, 0, 1, 0, 1, 2, 2, 1, 0, 1, 1] : List Nat).getD y 0
def am_kn (y : Nat) : Nat := ([0, 0, 0, 0, 0, 0, 0, 0, 0, 0, 1, 1, 1, 1, 1, 1, 1, 1, 1, 1, 1, 2, 2, 2, 2, 2, 2, 2, 2, 3, 3, 3, 3, 3, 3, 3, 3, 3, 3, 3, 4, 4, 4, 4, 4, 4, 4, 4, 4, 5, 5, 5, 5, 6, 6, 6, 6, 6, 6, 6, 6, 7, 7, 7, 7, 7, 7, 7, 7, 7, 7, 7, 7, 7, 8, 8, 8, 8, 8, 8, 8, 8, 8, 8, 8, 8, 8, 8, 8, 9, 9, 9, 9, 9, 9, 9, 9, 9, 10, 10, 10, 10, 10, 10, 10, 10, 11, 11, 11, 11, 11, 11, 11, 11, 11, 11, 11, 11, 11, 11, 11, 11, 11, 11, 11, 11, 11, 11, 11, 11, 11, 11, 11, 11, 11, 11, 11, 11, 11, 11, 11, 11, 11, 11, 11, 11, 11, 11, 11, 11, 11, 11, 11, 11, 11, 11, 11, 11, 11, 11, 12, 12, 12, 12, 12, 12, 12, 12, 12, 12, 12, 12, 12, 12, 12, 12, 12, 12, 12, 12, 12, 12, 12, 12, 12, 12, 12, 12, 12, 12, 12, 12, 12, 12, 12, 12, 12, 12, 12, 12, 12, 12, 12, 12, 12, 12, 12, 12, 12, 12, 12, 12, 12, 12, 12, 12, 12, 12, 12, 12, 12, 12, 12, 12, 12, 12, 12, 12, 12, 12, 12, 12, 12, 12, 12, 12, 12, 12, 12, 12, 12, 12, 12, 12, 12, 12, 12, 12, 12, 12, 12, 12, 12, 12, 12, 12, 12, 12, 12, 12, 12, 12, 12, 12, 12, 12, 12, 12, 12, 12, 12, 12, 12, 12, 12, 12, 12, 12, 12, 12, 12, 12, 12, 12, 12, 12, 12, 14, 13] : List Nat).getD y 0
def am_STw (y : Nat) : Cond := .static (am_yN y)
def am_ST_2_0 : List (Nat) := [157, 158]
theorem am_ST_2_0_ok : ∀ q ∈ am_ST_2_0, am_STw q ∈ am_T := fun q h => am_g2 [219, 222] (am_ST_2_0.map am_STw) (by decide +kernel) (by decide +kernel) _ (List.mem_map.mpr ⟨q, h, rfl⟩)
def am_ST_3_0 : List (Nat) := [32, 34, 97, 159]
theorem am_ST_3_0_ok : ∀ q ∈ am_ST_3_0, am_STw q ∈ am_T := fun q h => am_g3 [77, 48, 42, 108] (am_ST_3_0.map am_STw) (by decide +kernel) (by decide +kernel) _ (List.mem_map.mpr ⟨q, h, rfl⟩)
def am_ST_5_0 : List (Nat) := [155, 287]
theorem am_ST_5_0_ok : ∀ q ∈ am_ST_5_0, am_STw q ∈ am_T := fun q h => am_g5 [127, 120] (am_ST_5_0.map am_STw) (by decide +kernel) (by decide +kernel) _ (List.mem_map.mpr ⟨q, h, rfl⟩)
def am_ST_6_0 : List (Nat) := [161, 176]
theorem am_ST_6_0_ok : ∀ q ∈ am_ST_6_0, am_STw q ∈ am_T := fun q h => am_g6 [208, 225] (am_ST_6_0.map am_STw) (by decide +kernel) (by decide +kernel) _ (List.mem_map.mpr ⟨q, h, rfl⟩)
def am_ST_7_0 : List (Nat) := [162, 164, 187, 197, 198, 208]
theorem am_ST_7_0_ok : ∀ q ∈ am_ST_7_0, am_STw q ∈ am_T := fun q h => am_g7 [73, 50, 84, 146, 149, 218] (am_ST_7_0.map am_STw) (by decide +kernel) (by decide +kernel) _ (List.mem_map.mpr ⟨q, h, rfl⟩)
def am_ST_8_0 : List (Nat) := [163, 269]
theorem am_ST_8_0_ok : ∀ q ∈ am_ST_8_0, am_STw q ∈ am_T := fun q h => am_g8 [150, 161] (am_ST_8_0.map am_STw) (by decide +kernel) (by decide +kernel) _ (List.mem_map.mpr ⟨q, h, rfl⟩)
def am_ST : List (Nat) := am_ST_2_0 ++ am_ST_3_0 ++ am_ST_5_0 ++ am_ST_6_0 ++ am_ST_7_0 ++ am_ST_8_0
theorem am_ST_ok : ∀ q ∈ am_ST, am_STw q ∈ am_T := by
  intro q h
  simp only [am_ST, List.mem_append, or_assoc] at h
  rcases h with h | h | h | h | h | h
  · exact am_ST_2_0_ok q h
  · exact am_ST_3_0_ok q h
  · exact am_ST_5_0_ok q h
  · exact am_ST_6_0_ok q h
  · exact am_ST_7_0_ok q h
  · exact am_ST_8_0_ok q h
def am_IMw (y : Nat) : Cond := .instanceMethod (am_yN y)
def am_IM_1_0 : List (Nat) := [10, 21, 29, 40, 49, 74, 106]
theorem am_IM_1_0_ok : ∀ q ∈ am_IM_1_0, am_IMw q ∈ am_T := fun q h => am_g1 [32, 206, 193, 168, 224, 38, 24] (am_IM_1_0.map am_IMw) (by decide +kernel) (by decide +kernel) _ (List.mem_map.mpr ⟨q, h, rfl⟩)
def am_IM_2_0 : List (Nat) := [0, 12, 43, 53, 61, 89, 98, 107, 152, 153]
theorem am_IM_2_0_ok : ∀ q ∈ am_IM_2_0, am_IMw q ∈ am_T := fun q h => am_g2 [21, 233, 229, 43, 72, 78, 123, 215, 226, 238] (am_IM_2_0.map am_IMw) (by decide +kernel) (by decide +kernel) _ (List.mem_map.mpr ⟨q, h, rfl⟩)
def am_IM_3_0 : List (Nat) := [13, 15, 16, 17, 18, 30, 31, 33, 37, 38, 39, 62, 63, 65, 75, 76, 78, 79, 80, 91, 92, 96, 99, 100, 101, 104, 108, 109, 110, 111, 112, 113, 114, 115, 116, 117, 118, 119, 156]
theorem am_IM_3_0_ok : ∀ q ∈ am_IM_3_0, am_IMw q ∈ am_T := fun q h => am_g3 [60, 5, 26, 17, 30, 73, 84, 9, 88, 14, 23, 152, 232, 174, 52, 112, 92, 100, 96, 156, 236, 34, 160, 165, 170, 179, 1, 56, 64, 69, 104, 116, 122, 128, 136, 140, 144, 148, 133] (am_IM_3_0.map am_IMw) (by decide +kernel) (by decide +kernel) _ (List.mem_map.mpr ⟨q, h, rfl⟩)
def am_IM_4_0 : List (Nat) := [11, 20, 22, 23, 24, 25, 26, 27, 28, 35, 41, 42, 44, 45, 46, 47, 48, 50, 51, 52, 54, 64, 66, 67, 68, 69, 70, 71, 72, 73, 77, 90, 93, 94, 95, 102, 103, 105, 120, 121, 122, 123, 124, 125, 126, 127, 128, 129, 154]
theorem am_IM_4_0_ok : ∀ q ∈ am_IM_4_0, am_IMw q ∈ am_T := fun q h => am_g4 [94, 117, 125, 140, 144, 149, 155, 203, 224, 158, 134, 227, 212, 207, 215, 219, 104, 90, 110, 114, 235, 24, 44, 51, 55, 59, 5, 9, 13, 38, 98, 77, 0, 33, 67, 72, 17, 27, 86, 162, 166, 170, 175, 184, 189, 194, 199, 231, 181] (am_IM_4_0.map am_IMw) (by decide +kernel) (by decide +kernel) _ (List.mem_map.mpr ⟨q, h, rfl⟩)
def am_IM_5_0 : List (Nat) := [1, 2, 3, 4, 5, 6, 7, 8, 9, 14, 19, 36, 55, 56, 57, 58, 59, 60, 81, 82, 83, 84, 85, 86, 87, 88, 130, 131, 132, 133, 134, 135, 136, 137, 138, 139, 140, 141, 142, 143, 144, 145, 146, 147, 148, 149, 150, 151, 160]
theorem am_IM_5_0_ok : ∀ q ∈ am_IM_5_0, am_IMw q ∈ am_T := fun q h => am_g5 [29, 34, 40, 44, 70, 65, 81, 87, 159, 53, 135, 73, 5, 13, 21, 174, 183, 189, 115, 139, 144, 151, 94, 99, 103, 108, 1, 9, 17, 25, 49, 57, 61, 77, 90, 111, 131, 147, 155, 163, 170, 178, 197, 201, 206, 210, 221, 216, 227] (am_IM_5_0.map am_IMw) (by decide +kernel) (by decide +kernel) _ (List.mem_map.mpr ⟨q, h, rfl⟩)
def am_IM_6_0 : List (Nat) := [165, 167, 169, 171, 172, 173, 174, 182, 183, 235]
theorem am_IM_6_0_ok : ∀ q ∈ am_IM_6_0, am_IMw q ∈ am_T := fun q h => am_g6 [197, 216, 201, 192, 204, 211, 234, 219, 229, 238] (am_IM_6_0.map am_IMw) (by decide +kernel) (by decide +kernel) _ (List.mem_map.mpr ⟨q, h, rfl⟩)
def am_IM_7_0 : List (Nat) := [166, 175, 177, 178, 179, 180, 184, 185, 186, 188, 189, 190, 191, 192, 193, 194, 195, 196, 199, 200, 201, 202, 203, 204, 205, 206, 207, 209, 210, 211, 212, 213, 214, 215, 216, 217, 218, 219, 220, 221, 223, 224, 227, 228, 229, 230, 231, 232, 233, 234, 236]
theorem am_IM_7_0_ok : ∀ q ∈ am_IM_7_0, am_IMw q ∈ am_T := fun q h => am_g7 [103, 19, 29, 70, 66, 62, 32, 37, 41, 88, 80, 91, 96, 106, 110, 119, 114, 122, 139, 143, 161, 182, 165, 211, 126, 207, 178, 222, 226, 230, 198, 194, 186, 203, 190, 173, 215, 238, 169, 135, 157, 130, 23, 15, 11, 7, 2, 47, 54, 77, 58] (am_IM_7_0.map am_IMw) (by decide +kernel) (by decide +kernel) _ (List.mem_map.mpr ⟨q, h, rfl⟩)
def am_IM_8_0 : List (Nat) := [168, 170, 181, 222, 225, 226, 237, 238, 239, 240, 241, 242, 243, 244, 245, 246, 247, 248, 249, 250, 251, 252, 253, 254, 255, 256, 257, 258, 259, 260, 261, 262, 263, 264, 265, 266, 267, 268, 270, 271, 272, 273, 274, 275, 276, 277, 278, 279, 280, 281, 282, 283, 284, 285, 286]
theorem am_IM_8_0_ok : ∀ q ∈ am_IM_8_0, am_IMw q ∈ am_T := fun q h => am_g8 [29, 25, 197, 5, 13, 8, 33, 21, 16, 41, 36, 49, 44, 61, 57, 52, 64, 74, 69, 77, 86, 81, 102, 98, 106, 94, 89, 109, 113, 117, 126, 121, 129, 143, 139, 134, 146, 158, 153, 164, 168, 172, 187, 183, 201, 205, 193, 178, 209, 212, 221, 216, 227, 231, 237] (am_IM_8_0.map am_IMw) (by decide +kernel) (by decide +kernel) _ (List.mem_map.mpr ⟨q, h, rfl⟩)
def am_IM : List (Nat) := am_IM_1_0 ++ am_IM_2_0 ++ am_IM_3_0 ++ am_IM_4_0 ++ am_IM_5_0 ++ am_IM_6_0 ++ am_IM_7_0 ++ am_IM_8_0
theorem am_IM_ok : ∀ q ∈ am_IM, am_IMw q ∈ am_T := by
  intro q h
  simp only [am_IM, List.mem_append, or_assoc] at h
  rcases h with h | h | h | h | h | h | h | h
  · exact am_IM_1_0_ok q h
  · exact am_IM_2_0_ok q h
  · exact am_IM_3_0_ok q h
  · exact am_IM_4_0_ok q h
  · exact am_IM_5_0_ok q h
  · exact am_IM_6_0_ok q h
  · exact am_IM_7_0_ok q h
  · exact am_IM_8_0_ok q h
def am_SEw (y : Nat) : Cond := .selects (am_ON (am_kn y)) (am_yN y) (am_yN y)
def am_SE_2_0 : List (Nat) := [12, 43, 107]
theorem am_SE_2_0_ok : ∀ q ∈ am_SE_2_0, am_SEw q ∈ am_T := fun q h => am_g2 [234, 230, 216] (am_SE_2_0.map am_SEw) (by decide +kernel) (by decide +kernel) _ (List.mem_map.mpr ⟨q, h, rfl⟩)
def am_SE_3_0 : List (Nat) := [13, 15, 16, 17, 18, 30, 31, 33, 37, 62, 75, 76, 78, 79, 80, 91, 92, 96, 99, 100, 104, 108, 109, 110, 111, 112, 113, 114, 115, 116, 117, 118, 119]
theorem am_SE_3_0_ok : ∀ q ∈ am_SE_3_0, am_SEw q ∈ am_T := fun q h => am_g3 [61, 6, 27, 18, 31, 74, 85, 10, 89, 153, 53, 113, 93, 101, 97, 157, 237, 35, 161, 166, 180, 2, 57, 65, 70, 105, 117, 123, 129, 137, 141, 145, 149] (am_SE_3_0.map am_SEw) (by decide +kernel) (by decide +kernel) _ (List.mem_map.mpr ⟨q, h, rfl⟩)
def am_SE_4_0 : List (Nat) := [11, 20, 22, 23, 24, 25, 27, 35, 41, 42, 45, 46, 47, 48, 50, 54, 77, 90, 93, 94, 95, 102, 103, 105, 120, 121, 122, 123, 124, 125, 126, 127, 128, 129]
theorem am_SE_4_0_ok : ∀ q ∈ am_SE_4_0, am_SEw q ∈ am_T := fun q h => am_g4 [95, 118, 126, 141, 145, 150, 204, 159, 135, 228, 208, 216, 220, 105, 91, 236, 99, 78, 1, 34, 68, 73, 18, 28, 87, 163, 167, 171, 176, 185, 190, 195, 200, 232] (am_SE_4_0.map am_SEw) (by decide +kernel) (by decide +kernel) _ (List.mem_map.mpr ⟨q, h, rfl⟩)
def am_SE_5_0 : List (Nat) := [1, 4, 6, 7, 9, 14, 19, 36, 55, 56, 57, 58, 59, 81, 82, 84, 85, 87, 130, 131, 132, 133, 134, 135, 136, 137, 138, 139, 140, 141, 142, 143, 144, 145, 146, 147, 148, 149, 150]
theorem am_SE_5_0_ok : ∀ q ∈ am_SE_5_0, am_SEw q ∈ am_T := fun q h => am_g5 [30, 45, 66, 82, 160, 54, 136, 74, 6, 14, 22, 175, 184, 116, 140, 152, 95, 104, 2, 10, 18, 26, 50, 58, 62, 78, 91, 112, 132, 148, 156, 164, 171, 179, 198, 202, 207, 211, 222] (am_SE_5_0.map am_SEw) (by decide +kernel) (by decide +kernel) _ (List.mem_map.mpr ⟨q, h, rfl⟩)
def am_SE_6_0 : List (Nat) := [171, 172, 173, 182, 183]
theorem am_SE_6_0_ok : ∀ q ∈ am_SE_6_0, am_SEw q ∈ am_T := fun q h => am_g6 [193, 205, 212, 220, 230] (am_SE_6_0.map am_SEw) (by decide +kernel) (by decide +kernel) _ (List.mem_map.mpr ⟨q, h, rfl⟩)
def am_SE_7_0 : List (Nat) := [184, 185, 186, 189, 190, 191, 192, 193, 195, 196, 205, 224]
theorem am_SE_7_0_ok : ∀ q ∈ am_SE_7_0, am_SEw q ∈ am_T := fun q h => am_g7 [33, 38, 42, 81, 92, 97, 107, 111, 115, 123, 127, 131] (am_SE_7_0.map am_SEw) (by decide +kernel) (by decide +kernel) _ (List.mem_map.mpr ⟨q, h, rfl⟩)
def am_SE_8_0 : List (Nat) := [226, 239, 241, 243, 246, 247, 249, 250, 252, 257, 258, 259, 260, 262, 263, 266, 267, 270, 271, 272, 273, 279, 281, 283, 284, 285, 286]
theorem am_SE_8_0_ok : ∀ q ∈ am_SE_8_0, am_SEw q ∈ am_T := fun q h => am_g8 [9, 17, 37, 45, 53, 65, 70, 78, 82, 90, 110, 114, 118, 122, 130, 135, 147, 154, 165, 169, 173, 179, 213, 217, 228, 232, 238] (am_SE_8_0.map am_SEw) (by decide +kernel) (by decide +kernel) _ (List.mem_map.mpr ⟨q, h, rfl⟩)
def am_SE : List (Nat) := am_SE_2_0 ++ am_SE_3_0 ++ am_SE_4_0 ++ am_SE_5_0 ++ am_SE_6_0 ++ am_SE_7_0 ++ am_SE_8_0
theorem am_SE_ok : ∀ q ∈ am_SE, am_SEw q ∈ am_T := by
  intro q h
  simp only [am_SE, List.mem_append, or_assoc] at h
  rcases h with h | h | h | h | h | h | h
  · exact am_SE_2_0_ok q h
  · exact am_SE_3_0_ok q h
  · exact am_SE_4_0_ok q h
  · exact am_SE_5_0_ok q h
  · exact am_SE_6_0_ok q h
  · exact am_SE_7_0_ok q h
  · exact am_SE_8_0_ok q h
theorem am_gp (ps : List Nat) (ws : List Cond) (h : ps.map (fun i => (k2_sels lw_privs)[i]?) = ws.map some) (g : ws.all goodWord = true) : ∀ w ∈ ws, w ∈ am_T := by
  intro w hw
  obtain ⟨i, hi⟩ := List.getElem?_of_mem hw
  have h1 : (ps.map (fun i => (k2_sels lw_privs)[i]?))[i]? = some (some w) := by rw [h, List.getElem?_map, hi]; rfl
  rw [List.getElem?_map] at h1
  cases hp : ps[i]? with
  | none => rw [hp] at h1; cases h1
  | some q =>
    rw [hp] at h1
    exact am_T_of (List.mem_append_left _ (List.mem_of_getElem? (Option.some.inj h1))) (List.all_eq_true.mp g w hw)
def am_SP_0 : List Nat := [2, 3, 5, 8, 26, 28, 38, 39, 44, 51, 52, 60, 63, 64, 65, 66, 67, 68, 69, 70, 71, 72, 73, 83, 86, 88, 101, 151, 152, 153, 154, 156, 165, 166, 167, 168, 169, 170, 174, 175, 177, 178, 179, 180, 181, 188, 194, 199, 200, 201, 202, 203, 204, 206, 207, 209, 210, 211, 212, 213]
theorem am_SP_0_ok : ∀ q ∈ am_SP_0, am_SEw q ∈ am_T := fun q h => am_gp [23, 24, 25, 26, 19, 22, 2, 3, 21, 17, 18, 30, 7, 11, 6, 13, 14, 15, 16, 8, 9, 10, 12, 29, 27, 28, 5, 31, 0, 1, 20, 4, 32, 52, 34, 80, 33, 79, 35, 41, 43, 49, 48, 47, 99, 51, 53, 55, 56, 58, 63, 59, 70, 69, 62, 72, 73, 74, 67, 66] (am_SP_0.map am_SEw) (by decide +kernel) (by decide +kernel) _ (List.mem_map.mpr ⟨q, h, rfl⟩)
def am_SP_1 : List Nat := [214, 215, 216, 217, 218, 219, 220, 221, 222, 223, 225, 227, 228, 229, 230, 231, 232, 233, 234, 235, 236, 237, 238, 240, 242, 244, 245, 248, 251, 253, 254, 255, 256, 261, 264, 265, 268, 274, 275, 276, 277, 278, 280, 282]
theorem am_SP_1_ok : ∀ q ∈ am_SP_1, am_SEw q ∈ am_T := fun q h => am_gp [64, 68, 65, 61, 71, 75, 60, 54, 76, 57, 77, 42, 40, 39, 38, 37, 44, 45, 50, 36, 46, 81, 78, 82, 83, 85, 84, 86, 87, 90, 89, 91, 88, 92, 94, 93, 95, 97, 96, 100, 101, 98, 102, 103] (am_SP_1.map am_SEw) (by decide +kernel) (by decide +kernel) _ (List.mem_map.mpr ⟨q, h, rfl⟩)
def am_SV : List Nat := am_SE ++ am_SP_0 ++ am_SP_1
theorem am_SV_ok : ∀ q ∈ am_SV, am_SEw q ∈ am_T := by
  intro q h
  simp only [am_SV, List.mem_append, or_assoc] at h
  rcases h with h | h | h
  · exact am_SE_ok q h
  · exact am_SP_0_ok q h
  · exact am_SP_1_ok q h
