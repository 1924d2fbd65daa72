/-! ===== words of the tables, by their places ===== -/
theorem am_s1 {w : Cond} (h : w ∈ tables_1_1) : w ∈ lw_tbl := List.mem_append_right _ (List.mem_append_left _ h)
theorem am_g1 (ps : List Nat) (ws : List Cond) (h : ps.map (fun i => tables_1_1[i]?) = ws.map some) (g : ws.all goodWord = true) : ∀ w ∈ ws, w ∈ am_T := by
  intro w hw
  obtain ⟨i, hi⟩ := List.getElem?_of_mem hw
  have h1 : (ps.map (fun i => tables_1_1[i]?))[i]? = some (some w) := by rw [h, List.getElem?_map, hi]; rfl
  rw [List.getElem?_map] at h1
  cases hp : ps[i]? with
  | none => rw [hp] at h1; cases h1
  | some q =>
    rw [hp] at h1
    exact am_T_of (am_s1 (List.mem_of_getElem? (Option.some.inj h1))) (List.all_eq_true.mp g w hw)
theorem am_s2 {w : Cond} (h : w ∈ tables_1_2) : w ∈ lw_tbl := List.mem_append_right _ (List.mem_append_right _ (List.mem_append_left _ h))
theorem am_g2 (ps : List Nat) (ws : List Cond) (h : ps.map (fun i => tables_1_2[i]?) = ws.map some) (g : ws.all goodWord = true) : ∀ w ∈ ws, w ∈ am_T := by
  intro w hw
  obtain ⟨i, hi⟩ := List.getElem?_of_mem hw
  have h1 : (ps.map (fun i => tables_1_2[i]?))[i]? = some (some w) := by rw [h, List.getElem?_map, hi]; rfl
  rw [List.getElem?_map] at h1
  cases hp : ps[i]? with
  | none => rw [hp] at h1; cases h1
  | some q =>
    rw [hp] at h1
    exact am_T_of (am_s2 (List.mem_of_getElem? (Option.some.inj h1))) (List.all_eq_true.mp g w hw)
theorem am_s3 {w : Cond} (h : w ∈ tables_1_3) : w ∈ lw_tbl := List.mem_append_right _ (List.mem_append_right _ (List.mem_append_right _ (List.mem_append_left _ h)))
theorem am_g3 (ps : List Nat) (ws : List Cond) (h : ps.map (fun i => tables_1_3[i]?) = ws.map some) (g : ws.all goodWord = true) : ∀ w ∈ ws, w ∈ am_T := by
  intro w hw
  obtain ⟨i, hi⟩ := List.getElem?_of_mem hw
  have h1 : (ps.map (fun i => tables_1_3[i]?))[i]? = some (some w) := by rw [h, List.getElem?_map, hi]; rfl
  rw [List.getElem?_map] at h1
  cases hp : ps[i]? with
  | none => rw [hp] at h1; cases h1
  | some q =>
    rw [hp] at h1
    exact am_T_of (am_s3 (List.mem_of_getElem? (Option.some.inj h1))) (List.all_eq_true.mp g w hw)
theorem am_s4 {w : Cond} (h : w ∈ tables_1_4) : w ∈ lw_tbl := List.mem_append_right _ (List.mem_append_right _ (List.mem_append_right _ (List.mem_append_right _ (List.mem_append_left _ h))))
theorem am_g4 (ps : List Nat) (ws : List Cond) (h : ps.map (fun i => tables_1_4[i]?) = ws.map some) (g : ws.all goodWord = true) : ∀ w ∈ ws, w ∈ am_T := by
  intro w hw
  obtain ⟨i, hi⟩ := List.getElem?_of_mem hw
  have h1 : (ps.map (fun i => tables_1_4[i]?))[i]? = some (some w) := by rw [h, List.getElem?_map, hi]; rfl
  rw [List.getElem?_map] at h1
  cases hp : ps[i]? with
  | none => rw [hp] at h1; cases h1
  | some q =>
    rw [hp] at h1
    exact am_T_of (am_s4 (List.mem_of_getElem? (Option.some.inj h1))) (List.all_eq_true.mp g w hw)
theorem am_s5 {w : Cond} (h : w ∈ tables_1_5) : w ∈ lw_tbl := List.mem_append_right _ (List.mem_append_right _ (List.mem_append_right _ (List.mem_append_right _ (List.mem_append_right _ (List.mem_append_left _ h)))))
theorem am_g5 (ps : List Nat) (ws : List Cond) (h : ps.map (fun i => tables_1_5[i]?) = ws.map some) (g : ws.all goodWord = true) : ∀ w ∈ ws, w ∈ am_T := by
  intro w hw
  obtain ⟨i, hi⟩ := List.getElem?_of_mem hw
  have h1 : (ps.map (fun i => tables_1_5[i]?))[i]? = some (some w) := by rw [h, List.getElem?_map, hi]; rfl
  rw [List.getElem?_map] at h1
  cases hp : ps[i]? with
  | none => rw [hp] at h1; cases h1
  | some q =>
    rw [hp] at h1
    exact am_T_of (am_s5 (List.mem_of_getElem? (Option.some.inj h1))) (List.all_eq_true.mp g w hw)
theorem am_s6 {w : Cond} (h : w ∈ tables_1_6) : w ∈ lw_tbl := List.mem_append_right _ (List.mem_append_right _ (List.mem_append_right _ (List.mem_append_right _ (List.mem_append_right _ (List.mem_append_right _ (List.mem_append_left _ h))))))
theorem am_g6 (ps : List Nat) (ws : List Cond) (h : ps.map (fun i => tables_1_6[i]?) = ws.map some) (g : ws.all goodWord = true) : ∀ w ∈ ws, w ∈ am_T := by
  intro w hw
  obtain ⟨i, hi⟩ := List.getElem?_of_mem hw
  have h1 : (ps.map (fun i => tables_1_6[i]?))[i]? = some (some w) := by rw [h, List.getElem?_map, hi]; rfl
  rw [List.getElem?_map] at h1
  cases hp : ps[i]? with
  | none => rw [hp] at h1; cases h1
  | some q =>
    rw [hp] at h1
    exact am_T_of (am_s6 (List.mem_of_getElem? (Option.some.inj h1))) (List.all_eq_true.mp g w hw)
theorem am_s7 {w : Cond} (h : w ∈ tables_1_7) : w ∈ lw_tbl := List.mem_append_right _ (List.mem_append_right _ (List.mem_append_right _ (List.mem_append_right _ (List.mem_append_right _ (List.mem_append_right _ (List.mem_append_right _ (List.mem_append_left _ h)))))))
theorem am_g7 (ps : List Nat) (ws : List Cond) (h : ps.map (fun i => tables_1_7[i]?) = ws.map some) (g : ws.all goodWord = true) : ∀ w ∈ ws, w ∈ am_T := by
  intro w hw
  obtain ⟨i, hi⟩ := List.getElem?_of_mem hw
  have h1 : (ps.map (fun i => tables_1_7[i]?))[i]? = some (some w) := by rw [h, List.getElem?_map, hi]; rfl
  rw [List.getElem?_map] at h1
  cases hp : ps[i]? with
  | none => rw [hp] at h1; cases h1
  | some q =>
    rw [hp] at h1
    exact am_T_of (am_s7 (List.mem_of_getElem? (Option.some.inj h1))) (List.all_eq_true.mp g w hw)
theorem am_s8 {w : Cond} (h : w ∈ tables_1_8) : w ∈ lw_tbl := List.mem_append_right _ (List.mem_append_right _ (List.mem_append_right _ (List.mem_append_right _ (List.mem_append_right _ (List.mem_append_right _ (List.mem_append_right _ (List.mem_append_right _ (List.mem_append_left _ h))))))))
theorem am_g8 (ps : List Nat) (ws : List Cond) (h : ps.map (fun i => tables_1_8[i]?) = ws.map some) (g : ws.all goodWord = true) : ∀ w ∈ ws, w ∈ am_T := by
  intro w hw
  obtain ⟨i, hi⟩ := List.getElem?_of_mem hw
  have h1 : (ps.map (fun i => tables_1_8[i]?))[i]? = some (some w) := by rw [h, List.getElem?_map, hi]; rfl
  rw [List.getElem?_map] at h1
  cases hp : ps[i]? with
  | none => rw [hp] at h1; cases h1
  | some q =>
    rw [hp] at h1
    exact am_T_of (am_s8 (List.mem_of_getElem? (Option.some.inj h1))) (List.all_eq_true.mp g w hw)
theorem am_s9 {w : Cond} (h : w ∈ tables_1_9) : w ∈ lw_tbl := List.mem_append_right _ (List.mem_append_right _ (List.mem_append_right _ (List.mem_append_right _ (List.mem_append_right _ (List.mem_append_right _ (List.mem_append_right _ (List.mem_append_right _ (List.mem_append_right _ (h)))))))))
theorem am_g9 (ps : List Nat) (ws : List Cond) (h : ps.map (fun i => tables_1_9[i]?) = ws.map some) (g : ws.all goodWord = true) : ∀ w ∈ ws, w ∈ am_T := by
  intro w hw
  obtain ⟨i, hi⟩ := List.getElem?_of_mem hw
  have h1 : (ps.map (fun i => tables_1_9[i]?))[i]? = some (some w) := by rw [h, List.getElem?_map, hi]; rfl
  rw [List.getElem?_map] at h1
  cases hp : ps[i]? with
  | none => rw [hp] at h1; cases h1
  | some q =>
    rw [hp] at h1
    exact am_T_of (am_s9 (List.mem_of_getElem? (Option.some.inj h1))) (List.all_eq_true.mp g w hw)
def am_RN (ci : Nat) : String := ([RX0, RX1, RX2, RX3, RX4, RX5, RX6, RX7, RX8, RX9, RX10, RX11, RX12] : List String).getD ci ""
def am_TN (ci : Nat) : u_T := ([TX0, TX1, TX2, TX3, TX4, TX5, TX6, TX7, TX8, TX9, TX10, TX11, TX12] : List u_T).getD ci (fun _ => ("", "", "", false))
def am_tN (ci : Nat) : Nat → FieldType := ([tyX0, tyX1, tyX2, tyX3, tyX4, tyX5, tyX6, tyX7, tyX8, tyX9, tyX10, tyX11, tyX12] : List (Nat → FieldType)).getD ci (fun _ => .int)
/-- the classes that have code: 13 the law, 14 Integer -/
def am_ON (cn : Nat) : String := ([RX0, RX1, RX2, RX3, RX4, RX5, RX6, RX7, RX8, RX9, RX10, RX11, RX12, RL, RJ6] : List String).getD cn ""
theorem am_vw : ∀ ci, ci < 13 → vwCl[ci]? = some (am_RN ci, am_TN ci, am_nf ci) := by
  intro ci h
  match ci, h with
  | 0, _ => exact rfl
  | 1, _ => exact rfl
  | 2, _ => exact rfl
  | 3, _ => exact rfl
  | 4, _ => exact rfl
  | 5, _ => exact rfl
  | 6, _ => exact rfl
  | 7, _ => exact rfl
  | 8, _ => exact rfl
  | 9, _ => exact rfl
  | 10, _ => exact rfl
  | 11, _ => exact rfl
  | 12, _ => exact rfl
theorem am_nm : ∀ ci, ci < 13 → ∀ a, a < am_nf ci → ∀ b, b < am_nf ci → a ≠ b → (am_TN ci a).2.1 ≠ (am_TN ci b).2.1 := by
  intro ci h
  match ci, h with
  | 0, _ => exact nmX0
  | 1, _ => exact nmX1
  | 2, _ => exact nmX2
  | 3, _ => exact nmX3
  | 4, _ => exact nmX4
  | 5, _ => exact nmX5
  | 6, _ => exact nmX6
  | 7, _ => exact nmX7
  | 8, _ => exact nmX8
  | 9, _ => exact nmX9
  | 10, _ => exact nmX10
  | 11, _ => exact nmX11
  | 12, _ => exact nmX12
theorem am_tk : ∀ ci, ci < 13 → ∀ k, k < am_nf ci → parseFieldDescriptor (am_TN ci k).2.2.1 = some (am_tN ci k) := by
  intro ci h
  match ci, h with
  | 0, _ => exact tyX0_ok
  | 1, _ => exact tyX1_ok
  | 2, _ => exact tyX2_ok
  | 3, _ => exact tyX3_ok
  | 4, _ => exact tyX4_ok
  | 5, _ => exact tyX5_ok
  | 6, _ => exact tyX6_ok
  | 7, _ => exact tyX7_ok
  | 8, _ => exact tyX8_ok
  | 9, _ => exact tyX9_ok
  | 10, _ => exact tyX10_ok
  | 11, _ => exact tyX11_ok
  | 12, _ => exact tyX12_ok
theorem am_w0_2 : ∀ w ∈ ([0, 1, 2, 3, 4] : List Nat).map (u_lay RX0 TX0), w ∈ am_T := am_g2 [29, 31, 33, 35, 37] _ (by decide +kernel) (by decide +kernel)
theorem am_w0 : ∀ w ∈ u_ws RX0 TX0 5, w ∈ am_T := by
  intro w hw
  obtain ⟨k, hk, rfl⟩ := List.mem_map.mp hw
  have hk : k < 5 := List.mem_range.mp hk
  refine am_w0_2 _ (List.mem_map.mpr ⟨k, ?_, rfl⟩)
  exact (by decide +kernel : ∀ k, k < 5 → k ∈ ([0, 1, 2, 3, 4] : List Nat)) k hk
theorem am_w1_1 : ∀ w ∈ ([0, 1, 2, 3, 4, 5, 6, 7, 8, 9, 10, 11, 12, 13, 14, 15, 16, 17] : List Nat).map (u_lay RX1 TX1), w ∈ am_T := am_g1 [127, 129, 131, 133, 135, 137, 139, 141, 143, 145, 147, 149, 151, 153, 155, 157, 159, 161] _ (by decide +kernel) (by decide +kernel)
theorem am_w1 : ∀ w ∈ u_ws RX1 TX1 18, w ∈ am_T := by
  intro w hw
  obtain ⟨k, hk, rfl⟩ := List.mem_map.mp hw
  have hk : k < 18 := List.mem_range.mp hk
  refine am_w1_1 _ (List.mem_map.mpr ⟨k, ?_, rfl⟩)
  exact (by decide +kernel : ∀ k, k < 18 → k ∈ ([0, 1, 2, 3, 4, 5, 6, 7, 8, 9, 10, 11, 12, 13, 14, 15, 16, 17] : List Nat)) k hk
theorem am_w2_1 : ∀ w ∈ ([0, 1, 2] : List Nat).map (u_lay RX2 TX2), w ∈ am_T := am_g1 [214, 216, 218] _ (by decide +kernel) (by decide +kernel)
theorem am_w2 : ∀ w ∈ u_ws RX2 TX2 3, w ∈ am_T := by
  intro w hw
  obtain ⟨k, hk, rfl⟩ := List.mem_map.mp hw
  have hk : k < 3 := List.mem_range.mp hk
  refine am_w2_1 _ (List.mem_map.mpr ⟨k, ?_, rfl⟩)
  exact (by decide +kernel : ∀ k, k < 3 → k ∈ ([0, 1, 2] : List Nat)) k hk
theorem am_w3_1 : ∀ w ∈ ([0, 1] : List Nat).map (u_lay RX3 TX3), w ∈ am_T := am_g1 [198, 200] _ (by decide +kernel) (by decide +kernel)
theorem am_w3 : ∀ w ∈ u_ws RX3 TX3 2, w ∈ am_T := by
  intro w hw
  obtain ⟨k, hk, rfl⟩ := List.mem_map.mp hw
  have hk : k < 2 := List.mem_range.mp hk
  refine am_w3_1 _ (List.mem_map.mpr ⟨k, ?_, rfl⟩)
  exact (by decide +kernel : ∀ k, k < 2 → k ∈ ([0, 1] : List Nat)) k hk
theorem am_w4_1 : ∀ w ∈ ([0, 1, 2, 3, 4] : List Nat).map (u_lay RX4 TX4), w ∈ am_T := am_g1 [178, 180, 182, 184, 186] _ (by decide +kernel) (by decide +kernel)
theorem am_w4 : ∀ w ∈ u_ws RX4 TX4 5, w ∈ am_T := by
  intro w hw
  obtain ⟨k, hk, rfl⟩ := List.mem_map.mp hw
  have hk : k < 5 := List.mem_range.mp hk
  refine am_w4_1 _ (List.mem_map.mpr ⟨k, ?_, rfl⟩)
  exact (by decide +kernel : ∀ k, k < 5 → k ∈ ([0, 1, 2, 3, 4] : List Nat)) k hk
theorem am_w5_2 : ∀ w ∈ ([0, 1, 2, 3, 4, 5, 6, 7] : List Nat).map (u_lay RX5 TX5), w ∈ am_T := am_g2 [1, 3, 5, 7, 9, 11, 13, 15] _ (by decide +kernel) (by decide +kernel)
theorem am_w5 : ∀ w ∈ u_ws RX5 TX5 8, w ∈ am_T := by
  intro w hw
  obtain ⟨k, hk, rfl⟩ := List.mem_map.mp hw
  have hk : k < 8 := List.mem_range.mp hk
  refine am_w5_2 _ (List.mem_map.mpr ⟨k, ?_, rfl⟩)
  exact (by decide +kernel : ∀ k, k < 8 → k ∈ ([0, 1, 2, 3, 4, 5, 6, 7] : List Nat)) k hk
theorem am_w6_2 : ∀ w ∈ ([0, 1, 2, 3, 4] : List Nat).map (u_lay RX6 TX6), w ∈ am_T := am_g2 [58, 60, 62, 64, 66] _ (by decide +kernel) (by decide +kernel)
theorem am_w6 : ∀ w ∈ u_ws RX6 TX6 5, w ∈ am_T := by
  intro w hw
  obtain ⟨k, hk, rfl⟩ := List.mem_map.mp hw
  have hk : k < 5 := List.mem_range.mp hk
  refine am_w6_2 _ (List.mem_map.mpr ⟨k, ?_, rfl⟩)
  exact (by decide +kernel : ∀ k, k < 5 → k ∈ ([0, 1, 2, 3, 4] : List Nat)) k hk
theorem am_w7_2 : ∀ w ∈ ([0, 1, 2, 3, 4] : List Nat).map (u_lay RX7 TX7), w ∈ am_T := am_g2 [150, 152, 154, 156, 158] _ (by decide +kernel) (by decide +kernel)
theorem am_w7 : ∀ w ∈ u_ws RX7 TX7 5, w ∈ am_T := by
  intro w hw
  obtain ⟨k, hk, rfl⟩ := List.mem_map.mp hw
  have hk : k < 5 := List.mem_range.mp hk
  refine am_w7_2 _ (List.mem_map.mpr ⟨k, ?_, rfl⟩)
  exact (by decide +kernel : ∀ k, k < 5 → k ∈ ([0, 1, 2, 3, 4] : List Nat)) k hk
theorem am_w8_1 : ∀ w ∈ ([0, 1, 2, 3] : List Nat).map (u_lay RX8 TX8), w ∈ am_T := am_g1 [48, 50, 52, 54] _ (by decide +kernel) (by decide +kernel)
theorem am_w8 : ∀ w ∈ u_ws RX8 TX8 4, w ∈ am_T := by
  intro w hw
  obtain ⟨k, hk, rfl⟩ := List.mem_map.mp hw
  have hk : k < 4 := List.mem_range.mp hk
  refine am_w8_1 _ (List.mem_map.mpr ⟨k, ?_, rfl⟩)
  exact (by decide +kernel : ∀ k, k < 4 → k ∈ ([0, 1, 2, 3] : List Nat)) k hk
theorem am_w9_2 : ∀ w ∈ ([0, 1, 2, 3, 4, 5, 6, 7] : List Nat).map (u_lay RX9 TX9), w ∈ am_T := am_g2 [103, 105, 107, 109, 111, 113, 115, 117] _ (by decide +kernel) (by decide +kernel)
theorem am_w9 : ∀ w ∈ u_ws RX9 TX9 8, w ∈ am_T := by
  intro w hw
  obtain ⟨k, hk, rfl⟩ := List.mem_map.mp hw
  have hk : k < 8 := List.mem_range.mp hk
  refine am_w9_2 _ (List.mem_map.mpr ⟨k, ?_, rfl⟩)
  exact (by decide +kernel : ∀ k, k < 8 → k ∈ ([0, 1, 2, 3, 4, 5, 6, 7] : List Nat)) k hk
theorem am_w10_2 : ∀ w ∈ ([0, 1, 2, 3, 4] : List Nat).map (u_lay RX10 TX10), w ∈ am_T := am_g2 [132, 134, 136, 138, 140] _ (by decide +kernel) (by decide +kernel)
theorem am_w10 : ∀ w ∈ u_ws RX10 TX10 5, w ∈ am_T := by
  intro w hw
  obtain ⟨k, hk, rfl⟩ := List.mem_map.mp hw
  have hk : k < 5 := List.mem_range.mp hk
  refine am_w10_2 _ (List.mem_map.mpr ⟨k, ?_, rfl⟩)
  exact (by decide +kernel : ∀ k, k < 5 → k ∈ ([0, 1, 2, 3, 4] : List Nat)) k hk
theorem am_w11_2 : ∀ w ∈ ([0, 1, 2, 3, 4, 5, 6, 7, 8, 9, 10, 11, 12, 13, 14, 15, 16] : List Nat).map (u_lay RX11 TX11), w ∈ am_T := am_g2 [178, 180, 182, 184, 186, 188, 190, 192, 194, 196, 198, 200, 202, 204, 206, 208, 210] _ (by decide +kernel) (by decide +kernel)
theorem am_w11 : ∀ w ∈ u_ws RX11 TX11 17, w ∈ am_T := by
  intro w hw
  obtain ⟨k, hk, rfl⟩ := List.mem_map.mp hw
  have hk : k < 17 := List.mem_range.mp hk
  refine am_w11_2 _ (List.mem_map.mpr ⟨k, ?_, rfl⟩)
  exact (by decide +kernel : ∀ k, k < 17 → k ∈ ([0, 1, 2, 3, 4, 5, 6, 7, 8, 9, 10, 11, 12, 13, 14, 15, 16] : List Nat)) k hk
theorem am_w12_6 : ∀ w ∈ ([0, 1, 2, 3, 4, 5, 6, 7, 8, 9, 10, 11, 12, 13, 14, 15, 16, 17, 18, 19, 20, 21, 22, 23, 24, 25, 26, 27, 28, 29, 30, 31, 32, 33, 34, 35, 36, 37, 38, 39, 40, 41, 42, 43, 44, 45, 46, 47, 48, 49, 50, 51, 52, 53, 54, 55, 56, 57, 58] : List Nat).map (u_lay RX12 TX12), w ∈ am_T := am_g6 [72, 74, 76, 78, 80, 82, 84, 86, 88, 90, 92, 94, 96, 98, 100, 102, 104, 106, 108, 110, 112, 114, 116, 118, 120, 122, 124, 126, 128, 130, 132, 134, 136, 138, 140, 142, 144, 146, 148, 150, 152, 154, 156, 158, 160, 162, 164, 166, 168, 170, 172, 174, 176, 178, 180, 182, 184, 186, 188] _ (by decide +kernel) (by decide +kernel)
theorem am_w12 : ∀ w ∈ u_ws RX12 TX12 59, w ∈ am_T := by
  intro w hw
  obtain ⟨k, hk, rfl⟩ := List.mem_map.mp hw
  have hk : k < 59 := List.mem_range.mp hk
  refine am_w12_6 _ (List.mem_map.mpr ⟨k, ?_, rfl⟩)
  exact (by decide +kernel : ∀ k, k < 59 → k ∈ ([0, 1, 2, 3, 4, 5, 6, 7, 8, 9, 10, 11, 12, 13, 14, 15, 16, 17, 18, 19, 20, 21, 22, 23, 24, 25, 26, 27, 28, 29, 30, 31, 32, 33, 34, 35, 36, 37, 38, 39, 40, 41, 42, 43, 44, 45, 46, 47, 48, 49, 50, 51, 52, 53, 54, 55, 56, 57, 58] : List Nat)) k hk
theorem am_cw : ∀ ci, ci < 13 → ∀ w ∈ u_ws (am_RN ci) (am_TN ci) (am_nf ci), w ∈ am_T := by
  intro ci h
  match ci, h with
  | 0, _ => exact am_w0
  | 1, _ => exact am_w1
  | 2, _ => exact am_w2
  | 3, _ => exact am_w3
  | 4, _ => exact am_w4
  | 5, _ => exact am_w5
  | 6, _ => exact am_w6
  | 7, _ => exact am_w7
  | 8, _ => exact am_w8
  | 9, _ => exact am_w9
  | 10, _ => exact am_w10
  | 11, _ => exact am_w11
  | 12, _ => exact am_w12
def am_fw (q : Nat × Nat × Nat × Nat) : Cond := .fieldLink (am_ON q.1) q.2.1 (am_TN q.2.2.1 q.2.2.2).1 (am_TN q.2.2.1 q.2.2.2).2.1 (am_TN q.2.2.1 q.2.2.2).2.2.1
def am_f1_0 : List (Nat × Nat × Nat × Nat) := [(8, 9, 8, 0), (8, 15, 8, 1), (8, 18, 8, 2), (11, 307, 8, 2), (2, 74, 8, 3), (8, 27, 8, 3), (11, 189, 8, 3), (1, 12, 1, 0), (2, 70, 1, 0), (3, 56, 1, 0), (11, 176, 1, 0), (1, 18, 1, 1), (11, 123, 1, 1), (3, 118, 1, 1), (1, 22, 1, 2), (3, 33, 1, 2), (11, 126, 1, 2), (1, 25, 1, 3), (6, 46, 1, 3), (11, 129, 1, 3), (5, 125, 1, 3), (3, 49, 1, 3), (2, 94, 1, 3), (0, 32, 1, 4), (11, 107, 1, 4), (1, 72, 1, 4), (6, 50, 1, 4), (3, 65, 1, 4), (1, 28, 1, 5), (11, 146, 1, 5), (6, 80, 1, 5), (3, 72, 1, 5), (1, 31, 1, 6), (11, 149, 1, 6), (1, 34, 1, 7), (2, 38, 1, 7), (0, 51, 1, 7), (5, 131, 1, 7), (11, 152, 1, 7), (1, 37, 1, 8), (2, 49, 1, 8), (5, 118, 1, 8), (11, 155, 1, 8), (3, 121, 1, 8), (1, 40, 1, 9), (2, 52, 1, 9), (5, 111, 1, 9), (11, 158, 1, 9), (1, 75, 1, 10), (0, 48, 1, 10), (11, 136, 1, 10), (6, 70, 1, 10), (1, 43, 1, 11), (0, 74, 1, 11), (1, 46, 1, 12), (0, 80, 1, 12), (1, 78, 1, 13), (0, 71, 1, 13), (11, 290, 1, 13), (1, 49, 1, 14)]
theorem am_f1_0_ok : ∀ q ∈ am_f1_0, am_fw q ∈ am_T := fun q h => am_g1 [41, 42, 43, 44, 45, 46, 47, 60, 61, 62, 63, 64, 65, 66, 67, 68, 69, 70, 71, 72, 73, 74, 75, 76, 77, 78, 79, 80, 81, 82, 83, 84, 85, 86, 87, 88, 89, 90, 91, 92, 93, 94, 95, 96, 97, 98, 99, 100, 101, 102, 103, 104, 105, 106, 107, 108, 109, 110, 111, 112] (am_f1_0.map am_fw) (by decide +kernel) (by decide +kernel) _ (List.mem_map.mpr ⟨q, h, rfl⟩)
def am_f1_1 : List (Nat × Nat × Nat × Nat) := [(5, 108, 1, 14), (2, 80, 1, 14), (6, 60, 1, 14), (3, 69, 1, 14), (11, 202, 1, 14), (1, 54, 1, 15), (3, 89, 1, 15), (11, 222, 1, 15), (1, 81, 1, 16), (11, 215, 1, 16), (1, 58, 1, 17), (6, 54, 1, 17), (3, 83, 1, 17), (11, 249, 1, 17), (4, 9, 4, 0), (4, 13, 4, 1), (4, 16, 4, 2), (4, 19, 4, 3), (4, 23, 4, 4), (2, 97, 4, 4), (11, 356, 4, 4), (3, 9, 3, 0), (3, 15, 3, 1), (2, 9, 2, 0), (5, 40, 2, 0), (2, 15, 2, 1), (5, 49, 2, 1), (2, 19, 2, 2), (5, 36, 5, 0), (5, 12, 5, 1), (5, 21, 5, 2), (5, 25, 5, 3), (5, 29, 5, 4), (5, 55, 5, 5), (11, 243, 5, 5), (5, 58, 5, 6), (5, 32, 5, 7)]
theorem am_f1_1_ok : ∀ q ∈ am_f1_1, am_fw q ∈ am_T := fun q h => am_g1 [113, 114, 115, 116, 117, 118, 119, 120, 121, 122, 123, 124, 125, 126, 171, 172, 173, 174, 175, 176, 177, 196, 197, 209, 210, 211, 212, 213, 231, 232, 233, 234, 235, 236, 237, 238, 239] (am_f1_1.map am_fw) (by decide +kernel) (by decide +kernel) _ (List.mem_map.mpr ⟨q, h, rfl⟩)
def am_f2_0 : List (Nat × Nat × Nat × Nat) := [(11, 236, 5, 7), (0, 24, 0, 0), (0, 9, 0, 1), (0, 15, 0, 2), (0, 18, 0, 3), (0, 21, 0, 4), (6, 21, 6, 0), (6, 12, 6, 1), (6, 18, 6, 2), (11, 345, 6, 2), (6, 33, 6, 3), (6, 57, 6, 4), (9, 9, 9, 0), (5, 90, 9, 0), (3, 102, 9, 0), (9, 15, 9, 1), (5, 83, 9, 1), (7, 80, 9, 1), (3, 112, 9, 1), (9, 18, 9, 2), (5, 86, 9, 2), (7, 111, 9, 2), (9, 21, 9, 3), (5, 66, 9, 3), (7, 119, 9, 3), (9, 24, 9, 4), (5, 76, 9, 4), (7, 103, 9, 4), (3, 105, 9, 4), (9, 30, 9, 5), (5, 61, 9, 5), (3, 97, 9, 5), (9, 27, 9, 6), (9, 34, 9, 7), (10, 9, 10, 0), (10, 21, 10, 1), (7, 59, 10, 2), (10, 31, 10, 2), (10, 25, 10, 3), (10, 38, 10, 4), (7, 14, 7, 0), (11, 226, 7, 0), (7, 23, 7, 1), (7, 34, 7, 2), (7, 38, 7, 3), (7, 42, 7, 4), (11, 12, 11, 0), (11, 16, 11, 1), (11, 20, 11, 2), (11, 27, 11, 3), (11, 34, 11, 4), (11, 43, 11, 5), (11, 52, 11, 6), (11, 61, 11, 7), (11, 68, 11, 8), (11, 75, 11, 9), (11, 79, 11, 10), (11, 83, 11, 11), (11, 87, 11, 12), (11, 205, 11, 13)]
theorem am_f2_0_ok : ∀ q ∈ am_f2_0, am_fw q ∈ am_T := fun q h => am_g2 [0, 24, 25, 26, 27, 28, 52, 53, 54, 55, 56, 57, 81, 82, 83, 84, 85, 86, 87, 88, 89, 90, 91, 92, 93, 94, 95, 96, 97, 98, 99, 100, 101, 102, 126, 127, 128, 129, 130, 131, 144, 145, 146, 147, 148, 149, 161, 162, 163, 164, 165, 166, 167, 168, 169, 170, 171, 172, 173, 174] (am_f2_0.map am_fw) (by decide +kernel) (by decide +kernel) _ (List.mem_map.mpr ⟨q, h, rfl⟩)
def am_f2_1 : List (Nat × Nat × Nat × Nat) := [(11, 91, 11, 14), (11, 212, 11, 15), (11, 362, 11, 16)]
theorem am_f2_1_ok : ∀ q ∈ am_f2_1, am_fw q ∈ am_T := fun q h => am_g2 [175, 176, 177] (am_f2_1.map am_fw) (by decide +kernel) (by decide +kernel) _ (List.mem_map.mpr ⟨q, h, rfl⟩)
def am_f6_0 : List (Nat × Nat × Nat × Nat) := [(12, 164, 12, 0), (12, 167, 12, 1), (12, 7, 12, 2), (12, 13, 12, 3), (12, 16, 12, 4), (12, 19, 12, 5), (12, 23, 12, 6), (12, 26, 12, 7), (12, 170, 12, 8), (12, 29, 12, 9), (12, 32, 12, 10), (12, 258, 12, 11), (12, 35, 12, 12), (12, 255, 12, 13), (12, 274, 12, 14), (12, 264, 12, 15), (12, 287, 12, 16), (12, 277, 12, 17), (12, 38, 12, 18), (12, 267, 12, 19), (12, 344, 12, 20), (12, 395, 12, 21), (12, 42, 12, 22), (12, 304, 12, 23), (12, 45, 12, 24), (12, 48, 12, 25), (12, 335, 12, 26), (12, 51, 12, 27), (12, 54, 12, 28), (12, 307, 12, 29), (12, 329, 12, 30), (12, 75, 12, 31), (12, 91, 12, 32), (12, 102, 12, 33), (12, 418, 12, 34), (12, 105, 12, 35), (12, 108, 12, 36), (12, 111, 12, 37), (12, 415, 12, 38), (12, 429, 12, 39), (12, 435, 12, 40), (12, 114, 12, 41), (12, 117, 12, 42), (12, 120, 12, 43), (12, 123, 12, 44), (12, 126, 12, 45), (12, 129, 12, 46), (12, 132, 12, 47), (12, 135, 12, 48), (12, 146, 12, 49), (12, 149, 12, 50), (12, 533, 12, 51), (12, 536, 12, 52), (12, 152, 12, 53), (12, 530, 12, 54), (12, 557, 12, 55), (12, 155, 12, 56), (12, 158, 12, 57), (12, 161, 12, 58)]
theorem am_f6_0_ok : ∀ q ∈ am_f6_0, am_fw q ∈ am_T := fun q h => am_g6 [13, 14, 15, 16, 17, 18, 19, 20, 21, 22, 23, 24, 25, 26, 27, 28, 29, 30, 31, 32, 33, 34, 35, 36, 37, 38, 39, 40, 41, 42, 43, 44, 45, 46, 47, 48, 49, 50, 51, 52, 53, 54, 55, 56, 57, 58, 59, 60, 61, 62, 63, 64, 65, 66, 67, 68, 69, 70, 71] (am_f6_0.map am_fw) (by decide +kernel) (by decide +kernel) _ (List.mem_map.mpr ⟨q, h, rfl⟩)
def am_FT : List (Nat × Nat × Nat × Nat) := am_f1_0 ++ am_f1_1 ++ am_f2_0 ++ am_f2_1 ++ am_f6_0
theorem am_FT_ok : ∀ q ∈ am_FT, am_fw q ∈ am_T := by
  intro q h
  simp only [am_FT, List.mem_append, or_assoc] at h
  rcases h with h | h | h | h | h
  · exact am_f1_0_ok q h
  · exact am_f1_1_ok q h
  · exact am_f2_0_ok q h
  · exact am_f2_1_ok q h
  · exact am_f6_0_ok q h
