/-! ===== the law checked ===== -/
theorem am_all_sp {α : Type} (n : Nat) (l : List α) (f : α → Bool) (h1 : (l.take n).all f = true) (h2 : (l.drop n).all f = true) : l.all f = true := by
  rw [← List.take_append_drop n l, List.all_append, h1, h2]
  rfl
def am_lawf : List am_I → Bool := am_ckL 13 cL_law (some .boolean) false (fun b => am_hd (pq_L_law.getD b []))
theorem ck_L_law_0 : ((pq_L_law.drop 0).take 12).all am_lawf = true := by decide +kernel
theorem ck_L_law_1 : ((pq_L_law.drop 12).take 12).all am_lawf = true := by decide +kernel
theorem ck_L_law_2 : ((pq_L_law.drop 24).take 12).all am_lawf = true := by decide +kernel
theorem ck_L_law_3 : ((pq_L_law.drop 36).take 12).all am_lawf = true := by decide +kernel
theorem ck_L_law_4 : ((pq_L_law.drop 48).take 12).all am_lawf = true := by decide +kernel
theorem ck_L_law_5 : ((pq_L_law.drop 60).take 12).all am_lawf = true := by decide +kernel
theorem ck_L_law_6 : ((pq_L_law.drop 72).take 12).all am_lawf = true := by decide +kernel
theorem ck_L_law_7 : ((pq_L_law.drop 84).take 12).all am_lawf = true := by decide +kernel
theorem ck_L_law_8 : (pq_L_law.drop 96).all am_lawf = true := by decide +kernel
theorem ck_L_lawr_7 : (pq_L_law.drop 84).all am_lawf = true := am_all_sp 12 _ _ ck_L_law_7 (by rw [List.drop_drop]; exact ck_L_law_8)
theorem ck_L_lawr_6 : (pq_L_law.drop 72).all am_lawf = true := am_all_sp 12 _ _ ck_L_law_6 (by rw [List.drop_drop]; exact ck_L_lawr_7)
theorem ck_L_lawr_5 : (pq_L_law.drop 60).all am_lawf = true := am_all_sp 12 _ _ ck_L_law_5 (by rw [List.drop_drop]; exact ck_L_lawr_6)
theorem ck_L_lawr_4 : (pq_L_law.drop 48).all am_lawf = true := am_all_sp 12 _ _ ck_L_law_4 (by rw [List.drop_drop]; exact ck_L_lawr_5)
theorem ck_L_lawr_3 : (pq_L_law.drop 36).all am_lawf = true := am_all_sp 12 _ _ ck_L_law_3 (by rw [List.drop_drop]; exact ck_L_lawr_4)
theorem ck_L_lawr_2 : (pq_L_law.drop 24).all am_lawf = true := am_all_sp 12 _ _ ck_L_law_2 (by rw [List.drop_drop]; exact ck_L_lawr_3)
theorem ck_L_lawr_1 : (pq_L_law.drop 12).all am_lawf = true := am_all_sp 12 _ _ ck_L_law_1 (by rw [List.drop_drop]; exact ck_L_lawr_2)
theorem ck_L_lawr_0 : (pq_L_law.drop 0).all am_lawf = true := am_all_sp 12 _ _ ck_L_law_0 (by rw [List.drop_drop]; exact ck_L_lawr_1)
theorem ck_L_law : am_ck 13 cL_law (some .boolean) false pq_L_law = true := ck_L_lawr_0
