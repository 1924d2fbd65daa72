/-! ===== the reference's methods that change its row: copies, undo, images, clouds, folk, roads ===== -/
theorem u1_q {α : Type} {f : Nat → α} {q q' : Nat} {v : α} (h : ¬ q' = q) : am_u1 f q v q' = f q' := by unfold am_u1; rw [if_neg h]
theorem u1_e {α : Type} {f : Nat → α} {q : Nat} {v : α} : am_u1 f q v q = v := by unfold am_u1; rw [if_pos rfl]
theorem u1_qk {α : Type} {f : Nat → Nat → α} {q q' k : Nat} {v : Nat → α} (h : ¬ q' = q) : am_u1 f q v q' k = f q' k := by rw [u1_q h]
theorem cp_in {f g : Nat → Int} {sp dp n j : Nat} (h : dp ≤ j ∧ j < dp + n) : am_cp f g sp dp n j = f (sp + (j - dp)) := if_pos h
theorem cp_out {f g : Nat → Int} {sp dp n j : Nat} (h : ¬ (dp ≤ j ∧ j < dp + n)) : am_cp f g sp dp n j = g j := if_neg h
theorem cp_0 {f g : Nat → Int} {sp dp : Nat} : am_cp f g sp dp 0 = g := funext fun j => if_neg (by omega)
theorem u1_cp0 {I : Nat → Nat → Int} {f : Nat → Int} {q sp dp : Nat} : am_u1 I q (am_cp f (I q) sp dp 0) = I := by
  rw [cp_0]
  funext q'
  unfold am_u1
  split
  · rename_i h; rw [h]
  · rfl
theorem cp_step {I : Nat → Nat → Int} {f g : Nat → Int} {q sp dp i : Nat} : am_u2 (am_u1 I q (am_cp f g sp dp i)) q (dp + i) (f (sp + i)) = am_u1 I q (am_cp f g sp dp (i + 1)) := by
  funext q' j
  by_cases h : q' = q
  · subst h
    rw [u2_at, u1_e, u1_e]
    unfold am_cp
    by_cases hj : j = dp + i
    · subst hj
      rw [if_pos rfl, if_pos (by omega), show dp + i - dp = i by omega]
    · rw [if_neg hj]
      by_cases h2 : dp ≤ j ∧ j < dp + i
      · rw [if_pos h2, if_pos (by omega)]
      · rw [if_neg h2, if_neg (by omega)]
  · rw [u2_q h, u1_q h, u1_q h]
theorem cp_stepG {I : Nat → Nat → Int} {f g : Nat → Int} {q sp dp i a b : Nat} (ha : a = dp + i) (hb : b = sp + i) : am_u2 (am_u1 I q (am_cp f g sp dp i)) q a (f b) = am_u1 I q (am_cp f g sp dp (i + 1)) := by
  subst ha; subst hb; exact cp_step
theorem c_keepAll {d : Nat} {G : am_G} {I : Nat → Nat → Int} {P : Nat → Nat → Option Nat} (hS : ST G P) {k : Nat} (hk : k < 18) : am_call am_B am_M (d + 1) 168 [(.inr (.inr (some 208))), (.inl (k : Int))] (G, I, P) = some (none, (G, (am_u1 I 213 (am_cp (I 210) (I 213) (5) (25 * k) 25)), P)) := by
  refine am_doL (L := [some (.inr (.inr (some 208))), some (.inl (k : Int)), none]) (Nat.le_of_ble_eq_true rfl) rfl ?_
  refine (ex_0 (ex_7_2 rfl (ex_58 ?_)))
  refine ex_forH (b := 1) (σ := Unit) (25) (fun i s => s) (fun i s => True) (fun i s e_i => [some (.inr (.inr (some 208))), some (.inl (k : Int)), some (.inl (i : Int))]) (fun i s => (G, (am_u1 I 213 (am_cp (I 210) (I 213) (5) (25 * k) i)), P)) ?_ ?_ (25) (0) (()) (fun k => ([some (.inr (.inr (some 208))), some (.inl (k : Int)), some (.inl 0)] : am_L).getD k none) (by omega) (trivial) rfl (congrArg (fun J => (G, J, P)) u1_cp0.symm) ?_
  · intro i s hii hvi
    exact trivial
  · intro i s e_i hii hvi s' hsi hki
    refine (ex_4_2 (ex_0 ?_))
    refine ex_ic3 (fun hc5 => by exfalso; omega) (fun hc5 => ?_)
    refine (ex_6_0 (ix_41r (sh_208 hS) (pt_208_6 hS) (ex_0 (ex_4_1 (ex_mul ⟨by omega, by omega⟩ (ex_4_2 (ex_add ⟨by omega, by omega⟩ (ex_6_0 (ix_41r (sh_208 hS) (pt_208_3 hS) (ex_0 (ex_4_2 (ex_add ⟨by omega, by omega⟩ (ix_30 (j := (5 + i)) (sh_210 hS) (by omega) (by omega) (by omega) ((u1_qk (by decide))) (ix_34 (j := ((25 * k) + i)) (sh_213 hS) (by omega) (by omega) (by omega) (ex_10_2 ⟨by omega, by omega⟩ rfl (ex_28 ?_))))))))))))))))
    rw [show (am_u2 (am_u1 I 213 (am_cp (I 210) (I 213) (5) (25 * k) i)) 213 ((25 * k) + i) (I 210 (5 + i))) = (am_u1 I 213 (am_cp (I 210) (I 213) (5) (25 * k) (i + 1))) from cp_stepG (a := ((25 * k) + i)) (b := (5 + i)) (by omega) (by omega)]
    exact hki (fun k => ([some (.inr (.inr (some 208))), some (.inl (k : Int)), some (.inl ((i : Int) + 1))] : am_L).getD k none)
  · intro s e_i hsi hvi
    refine (ex_4_2 (ex_0 ?_))
    refine ex_ic3 (fun hc5 => ?_) (fun hc5 => by exfalso; omega)
    exact ex_56 rfl
theorem c_putBack {d : Nat} {G : am_G} {I : Nat → Nat → Int} {P : Nat → Nat → Option Nat} (hS : ST G P) {k : Nat} (hk : k < 18) : am_call am_B am_M (d + 1) 169 [(.inr (.inr (some 208))), (.inl (k : Int))] (G, I, P) = some (none, (G, (am_u1 I 210 (am_cp (I 213) (I 210) (25 * k) (5) 25)), P)) := by
  refine am_doL (L := [some (.inr (.inr (some 208))), some (.inl (k : Int)), none]) (Nat.le_of_ble_eq_true rfl) rfl ?_
  refine (ex_0 (ex_7_2 rfl (ex_58 ?_)))
  refine ex_forH (b := 1) (σ := Unit) (25) (fun i s => s) (fun i s => True) (fun i s e_i => [some (.inr (.inr (some 208))), some (.inl (k : Int)), some (.inl (i : Int))]) (fun i s => (G, (am_u1 I 210 (am_cp (I 213) (I 210) (25 * k) (5) i)), P)) ?_ ?_ (25) (0) (()) (fun k => ([some (.inr (.inr (some 208))), some (.inl (k : Int)), some (.inl 0)] : am_L).getD k none) (by omega) (trivial) rfl (congrArg (fun J => (G, J, P)) u1_cp0.symm) ?_
  · intro i s hii hvi
    exact trivial
  · intro i s e_i hii hvi s' hsi hki
    refine (ex_4_2 (ex_0 ?_))
    refine ex_ic3 (fun hc5 => by exfalso; omega) (fun hc5 => ?_)
    refine (ex_6_0 (ix_41r (sh_208 hS) (pt_208_3 hS) (ex_0 (ex_4_2 (ex_add ⟨by omega, by omega⟩ (ex_6_0 (ix_41r (sh_208 hS) (pt_208_6 hS) (ex_0 (ex_4_1 (ex_mul ⟨by omega, by omega⟩ (ex_4_2 (ex_add ⟨by omega, by omega⟩ (ix_30 (j := ((25 * k) + i)) (sh_213 hS) (by omega) (by omega) (by omega) ((u1_qk (by decide))) (ix_34 (j := (5 + i)) (sh_210 hS) (by omega) (by omega) (by omega) (ex_10_2 ⟨by omega, by omega⟩ rfl (ex_28 ?_))))))))))))))))
    rw [show (am_u2 (am_u1 I 210 (am_cp (I 213) (I 210) (25 * k) (5) i)) 210 (5 + i) (I 213 ((25 * k) + i))) = (am_u1 I 210 (am_cp (I 213) (I 210) (25 * k) (5) (i + 1))) from cp_stepG (a := (5 + i)) (b := (25 * k + i)) (by omega) (by omega)]
    exact hki (fun k => ([some (.inr (.inr (some 208))), some (.inl (k : Int)), some (.inl ((i : Int) + 1))] : am_L).getD k none)
  · intro s e_i hsi hvi
    refine (ex_4_2 (ex_0 ?_))
    refine ex_ic3 (fun hc5 => ?_) (fun hc5 => by exfalso; omega)
    exact ex_56 rfl
theorem c_remember_l {d : Nat} {G : am_G} {I : Nat → Nat → Int} {P : Nat → Nat → Option Nat} (hS : ST G P) {u : Nat} {v : Int} (hu : I 208 8 = (u : Int)) (hl : u < 16) : am_call am_B am_M (d + 2) 170 [(.inr (.inr (some 208))), (.inl v)] (G, I, P) = some (none, (G, am_u2 (am_u2 (am_u1 I 213 (am_cp (I 210) (I 213) (5) (25 * u) 25)) 214 u v) 208 8 ((u : Int) + 1), P)) := by
  refine am_doL (L := [some (.inr (.inr (some 208))), some (.inl v), none]) (Nat.le_of_ble_eq_true rfl) rfl ?_
  refine (ex_6_0 (ix_41i (sh_208 hS) hu (ex_0 ?_)))
  refine ex_ic1 (fun hc6 => ?_) (fun hc6 => by exfalso; omega)
  refine (ex_6_0 (ex_6_0 (ix_41i (sh_208 hS) hu (ix_46 (S' := []) rfl (sh_208 hS) (c_keepAll hS (k := u) (by omega)) rfl rfl (ex_6_0 (ix_41r (sh_208 hS) (pt_208_7 hS) (ex_6_0 (ix_41i (sh_208 hS) (((u1_qk (by decide))).trans hu) (ex_4_1 (ix_34 (j := u) (sh_214 hS) (by omega) (by omega) (by omega) (ex_6_0 (ex_22 rfl (ix_41i (sh_208 hS) ((u2_q (by decide)).trans (((u1_qk (by decide))).trans hu)) (ex_0 (ex_add ⟨by omega, by omega⟩ (ix_42i (sh_208 hS) ?_))))))))))))))))
  exact ex_56 rfl
theorem c_remember_f {d : Nat} {G : am_G} {I : Nat → Nat → Int} {P : Nat → Nat → Option Nat} (hS : ST G P) {v : Int} (hu : I 208 8 = 16) : am_call am_B am_M (d + 2) 170 [(.inr (.inr (some 208))), (.inl v)] (G, I, P) = some (none, (G, am_u2 (am_u2 (am_u1 (am_u2 (am_u1 (am_u1 I 213 (am_cp (I 213) (I 213) (25) (0) 375)) 214 (am_cp ((am_u1 I 213 (am_cp (I 213) (I 213) (25) (0) 375)) 214) ((am_u1 I 213 (am_cp (I 213) (I 213) (25) (0) 375)) 214) (1) (0) 15)) 208 8 15) 213 (am_cp ((am_u2 (am_u1 (am_u1 I 213 (am_cp (I 213) (I 213) (25) (0) 375)) 214 (am_cp ((am_u1 I 213 (am_cp (I 213) (I 213) (25) (0) 375)) 214) ((am_u1 I 213 (am_cp (I 213) (I 213) (25) (0) 375)) 214) (1) (0) 15)) 208 8 15) 210) ((am_u2 (am_u1 (am_u1 I 213 (am_cp (I 213) (I 213) (25) (0) 375)) 214 (am_cp ((am_u1 I 213 (am_cp (I 213) (I 213) (25) (0) 375)) 214) ((am_u1 I 213 (am_cp (I 213) (I 213) (25) (0) 375)) 214) (1) (0) 15)) 208 8 15) 213) (5) (25 * 15) 25)) 214 15 v) 208 8 16, P)) := by
  refine am_doL (L := [some (.inr (.inr (some 208))), some (.inl v), none]) (Nat.le_of_ble_eq_true rfl) rfl ?_
  refine (ex_6_0 (ix_41i (sh_208 hS) hu (ex_0 (ex_ic1 (fun hc => by exfalso; revert hc; decide) (fun _ => ?_)))))
  refine (ex_0 (ex_7_2 rfl (ex_58 ?_)))
  refine ex_forH (b := 2) (σ := Unit) (375) (fun i s => s) (fun i s => True) (fun i s e_i => [some (.inr (.inr (some 208))), some (.inl v), some (.inl (i : Int))]) (fun i s => (G, (am_u1 I 213 (am_cp (I 213) (I 213) (25) (0) i)), P)) ?_ ?_ (375) (0) (()) (fun k => ([some (.inr (.inr (some 208))), some (.inl v), some (.inl 0)] : am_L).getD k none) (by omega) (trivial) rfl (congrArg (fun J => (G, J, P)) u1_cp0.symm) ?_
  · intro i s hii hvi
    exact trivial
  · intro i s e_i hii hvi s' hsi hki
    refine (ex_4_2 (ex_0 ?_))
    refine ex_ic3 (fun hc15 => by exfalso; omega) (fun hc15 => ?_)
    refine (ex_6_0 (ix_41r (sh_208 hS) (pt_208_6 hS) (ex_4_2 (ex_6_0 (ix_41r (sh_208 hS) (pt_208_6 hS) (ex_4_2 (ex_0 (ex_add ⟨by omega, by omega⟩ (ix_30 (j := (i + 25)) (sh_213 hS) (by omega) (by omega) (by omega) (((congrFun u1_e _).trans (cp_out (by omega)))) (ix_34 (j := i) (sh_213 hS) (by omega) (by omega) (by omega) (ex_10_2 ⟨by omega, by omega⟩ rfl (ex_28 ?_))))))))))))
    rw [show (am_u2 (am_u1 I 213 (am_cp (I 213) (I 213) (25) (0) i)) 213 i (I 213 (i + 25))) = (am_u1 I 213 (am_cp (I 213) (I 213) (25) (0) (i + 1))) from cp_stepG (a := i) (b := (i + 25)) (by omega) (by omega)]
    exact hki (fun k => ([some (.inr (.inr (some 208))), some (.inl v), some (.inl ((i : Int) + 1))] : am_L).getD k none)
  · intro s e_i hsi hvi
    refine (ex_4_2 (ex_0 ?_))
    refine ex_ic3 (fun hc15 => ?_) (fun hc15 => by exfalso; omega)
    refine (ex_0 (ex_7_2 rfl (ex_58 ?_)))
    refine ex_forH (b := 5) (σ := Unit) (15) (fun k s => s) (fun k s => True) (fun k s e_k => [some (.inr (.inr (some 208))), some (.inl v), some (.inl (k : Int))]) (fun k s => (G, (am_u1 (am_u1 I 213 (am_cp (I 213) (I 213) (25) (0) 375)) 214 (am_cp ((am_u1 I 213 (am_cp (I 213) (I 213) (25) (0) 375)) 214) ((am_u1 I 213 (am_cp (I 213) (I 213) (25) (0) 375)) 214) (1) (0) k)), P)) ?_ ?_ (15) (0) (()) (fun k => ([some (.inr (.inr (some 208))), some (.inl v), some (.inl 0)] : am_L).getD k none) (by omega) (trivial) rfl (congrArg (fun J => (G, J, P)) u1_cp0.symm) ?_
    · intro k s hik hvk
      exact trivial
    · intro k s e_k hik hvk s' hsk hkk
      refine (ex_4_2 (ex_0 ?_))
      refine ex_ic3 (fun hc44 => by exfalso; omega) (fun hc44 => ?_)
      refine (ex_6_0 (ix_41r (sh_208 hS) (pt_208_7 hS) (ex_4_2 (ex_6_0 (ix_41r (sh_208 hS) (pt_208_7 hS) (ex_4_2 (ex_0 (ex_add ⟨by omega, by omega⟩ (ix_30 (j := (k + 1)) (sh_214 hS) (by omega) (by omega) (by omega) ((((congrFun u1_e _).trans (cp_out (by omega)))).trans ((u1_qk (by decide)))) (ix_34 (j := k) (sh_214 hS) (by omega) (by omega) (by omega) (ex_10_2 ⟨by omega, by omega⟩ rfl (ex_28 ?_))))))))))))
      rw [show (am_u2 (am_u1 (am_u1 I 213 (am_cp (I 213) (I 213) (25) (0) 375)) 214 (am_cp ((am_u1 I 213 (am_cp (I 213) (I 213) (25) (0) 375)) 214) ((am_u1 I 213 (am_cp (I 213) (I 213) (25) (0) 375)) 214) (1) (0) k)) 214 k (I 214 (k + 1))) = (am_u1 (am_u1 I 213 (am_cp (I 213) (I 213) (25) (0) 375)) 214 (am_cp ((am_u1 I 213 (am_cp (I 213) (I 213) (25) (0) 375)) 214) ((am_u1 I 213 (am_cp (I 213) (I 213) (25) (0) 375)) 214) (1) (0) (k + 1))) from cp_stepG (a := k) (b := (k + 1)) (by omega) (by omega)]
      exact hkk (fun k => ([some (.inr (.inr (some 208))), some (.inl v), some (.inl ((k : Int) + 1))] : am_L).getD k none)
    · intro s e_k hsk hvk
      refine (ex_4_2 (ex_0 ?_))
      refine ex_ic3 (fun hc44 => ?_) (fun hc44 => by exfalso; omega)
      refine (ex_6_0 (ex_22 rfl (ix_41i (sh_208 hS) (((u1_qk (by decide))).trans (((u1_qk (by decide))).trans hu)) (ex_0 (ex_11e (v := 15) (by decide) (ix_42i (sh_208 hS) (ex_58 (ex_6_0 (ex_6_0 (ix_41i (sh_208 hS) u2_e (ix_46 (S' := []) rfl (sh_208 hS) (c_keepAll hS (k := 15) (by omega)) rfl rfl (ex_6_0 (ix_41r (sh_208 hS) (pt_208_7 hS) (ex_6_0 (ix_41i (sh_208 hS) (((u1_qk (by decide))).trans u2_e) (ex_4_1 (ix_34 (j := 15) (sh_214 hS) (by decide) (by decide) rfl (ex_6_0 (ex_22 rfl (ix_41i (sh_208 hS) ((u2_q (by decide)).trans (((u1_qk (by decide))).trans u2_e)) (ex_0 (ex_11e (v := 16) (by decide) (ix_42i (sh_208 hS) ?_)))))))))))))))))))))))
      exact ex_56 rfl
theorem c_undo_0 {d : Nat} {G : am_G} {I : Nat → Nat → Int} {P : Nat → Nat → Option Nat} (hS : ST G P) (hu : I 208 8 = 0) (hR3 : 0 ≤ I 209 3 ∧ I 209 3 ≤ 1000000) : am_call am_B am_M (d + 2) 171 [(.inr (.inr (some 208)))] (G, I, P) = some (some (.inl (-3)), (G, am_u2 (am_u2 (am_u2 I 208 0 0) 208 1 (-3)) 209 3 (I 209 3 + 1), P)) := by
  refine am_doL (L := [some (.inr (.inr (some 208)))]) (Nat.le_of_ble_eq_true rfl) rfl ?_
  refine (ex_6_0 (ex_0 (ix_42i (sh_208 hS) (ex_6_0 (ix_41i (sh_208 hS) ((u2_k (by decide)).trans hu) (ex_if1 (fun hc => by exfalso; revert hc; decide) (fun _ => ?_)))))))
  refine (ex_6_0 (ex_0 (ix_46 (S' := [(.inl (-3))]) rfl (sh_208 hS) (c_tell_c hS (k := 3) (by decide) (by decide) (u2_q (by decide)) hR3) rfl rfl ?_)))
  exact ex_53 rfl
theorem c_undo_s {d : Nat} {G : am_G} {I : Nat → Nat → Int} {P : Nat → Nat → Option Nat} (hS : ST G P) {u : Nat} (hu : I 208 8 = (u : Int) + 1) (hl : u < 16) (hs : 0 ≤ I 214 u) : am_call am_B am_M (d + 2) 171 [(.inr (.inr (some 208)))] (G, I, P) = some (some (.inl (I 214 u)), (G, am_u2 (am_u1 (am_u2 (am_u2 I 208 0 0) 208 8 (u : Int)) 210 (am_cp ((am_u2 (am_u2 I 208 0 0) 208 8 (u : Int)) 213) ((am_u2 (am_u2 I 208 0 0) 208 8 (u : Int)) 210) (25 * u) (5) 25)) 208 1 0, P)) := by
  refine am_doL (L := [some (.inr (.inr (some 208)))]) (Nat.le_of_ble_eq_true rfl) rfl ?_
  refine (ex_6_0 (ex_0 (ix_42i (sh_208 hS) (ex_6_0 (ix_41i (sh_208 hS) ((u2_k (by decide)).trans hu) ?_)))))
  refine ex_if1 (fun hc9 => ?_) (fun hc9 => by exfalso; omega)
  refine (ex_6_0 (ex_22 rfl (ix_41i (sh_208 hS) ((u2_k (by decide)).trans hu) (ex_0 (ex_11e ((am_sub ⟨by omega, by omega⟩).trans (by omega)) (ix_42i (sh_208 hS) (ex_6_0 (ex_6_0 (ix_41i (sh_208 hS) u2_e (ix_46 (S' := []) rfl (sh_208 hS) (c_putBack hS (k := u) (by omega)) rfl rfl (ex_6_0 (ex_6_0 (ix_41r (sh_208 hS) (pt_208_7 hS) (ex_6_0 (ix_41i (sh_208 hS) (((u1_qk (by decide))).trans u2_e) (ix_30 (j := u) (sh_214 hS) (by omega) (by omega) (by omega) (((u1_qk (by decide))).trans ((u2_q (by decide)).trans (u2_q (by decide)))) (ix_46 (S' := [(.inl (I 214 u))]) rfl (sh_208 hS) (c_tell_p hS (by omega)) rfl rfl ?_)))))))))))))))))
  exact ex_53 rfl
theorem c_image_b {d : Nat} {G : am_G} {I : Nat → Nat → Int} {P : Nat → Nat → Option Nat} (hS : ST G P) {k : Int} (hk : ¬ (0 ≤ k ∧ k ≤ 1)) (hR1 : 0 ≤ I 209 1 ∧ I 209 1 ≤ 1000000) : am_call am_B am_M (d + 2) 172 [(.inr (.inr (some 208))), (.inl k)] (G, I, P) = some (some (.inl (-1)), (G, am_u2 (am_u2 (am_u2 I 208 0 0) 208 1 (-1)) 209 1 (I 209 1 + 1), P)) := by
  refine am_doL (L := [some (.inr (.inr (some 208))), some (.inl k), none]) (Nat.le_of_ble_eq_true rfl) rfl ?_
  refine (ex_6_0 (ex_0 (ix_42i (sh_208 hS) (ex_4_1 (ex_19 (ex_1 (ex_1 ?_)))))))
  have hb9 : ¬ (((0 : Int) ≤ k ∧ (k : Int) ≤ 1)) := by omega
  refine (ix_45 (S' := [(.inl 0)]) rfl (c_in_f hb9) rfl rfl (ex_if1 (fun hc => by exfalso; revert hc; decide) (fun _ => ?_)))
  refine (ex_6_0 (ex_0 (ix_46 (S' := [(.inl (-1))]) rfl (sh_208 hS) (c_tell_c hS (k := 1) (by decide) (by decide) (u2_q (by decide)) hR1) rfl rfl ?_)))
  exact ex_53 rfl
theorem c_image {d : Nat} {G : am_G} {I : Nat → Nat → Int} {P : Nat → Nat → Option Nat} (hS : ST G P) {k : Nat} (hk : k < 2) : am_call am_B am_M (d + 2) 172 [(.inr (.inr (some 208))), (.inl (k : Int))] (G, I, P) = some (some (.inl 0), (G, am_u2 (am_u2 (am_u1 (am_u2 I 208 0 0) 211 (am_cp ((am_u2 I 208 0 0) 210) ((am_u2 I 208 0 0) 211) (0) (5500 * k) 5500)) 212 k 1) 208 1 0, P)) := by
  refine am_doL (L := [some (.inr (.inr (some 208))), some (.inl (k : Int)), none]) (Nat.le_of_ble_eq_true rfl) rfl ?_
  refine (ex_6_0 (ex_0 (ix_42i (sh_208 hS) (ex_4_1 (ex_19 (ex_1 (ex_1 ?_)))))))
  have hb9 : ((0 : Int) ≤ (k : Int) ∧ ((k : Int) : Int) ≤ 1) := by omega
  refine (ix_45 (S' := [(.inl 1)]) rfl (c_in_t hb9) rfl rfl (ex_if1 (fun _ => ?_) (fun hc => by exfalso; revert hc; decide)))
  refine (ex_0 (ex_7_2 rfl (ex_58 ?_)))
  refine ex_forH (b := 3) (σ := Unit) (5500) (fun i s => s) (fun i s => True) (fun i s e_i => [some (.inr (.inr (some 208))), some (.inl (k : Int)), some (.inl (i : Int))]) (fun i s => (G, (am_u1 (am_u2 I 208 0 0) 211 (am_cp ((am_u2 I 208 0 0) 210) ((am_u2 I 208 0 0) 211) (0) (5500 * k) i)), P)) ?_ ?_ (5500) (0) (()) (fun k => ([some (.inr (.inr (some 208))), some (.inl (k : Int)), some (.inl 0)] : am_L).getD k none) (by omega) (trivial) rfl (congrArg (fun J => (G, J, P)) u1_cp0.symm) ?_
  · intro i s hii hvi
    exact trivial
  · intro i s e_i hii hvi s' hsi hki
    refine (ex_4_2 (ex_0 ?_))
    refine ex_ic3 (fun hc27 => by exfalso; omega) (fun hc27 => ?_)
    refine (ex_6_0 (ix_41r (sh_208 hS) (pt_208_4 hS) (ex_0 (ex_4_1 (ex_mul ⟨by omega, by omega⟩ (ex_4_2 (ex_add ⟨by omega, by omega⟩ (ex_6_0 (ix_41r (sh_208 hS) (pt_208_3 hS) (ex_4_2 (ix_30 (j := i) (sh_210 hS) (by omega) (by omega) (by omega) (((u1_qk (by decide))).trans (u2_q (by decide))) (ix_34 (j := ((5500 * k) + i)) (sh_211 hS) (by omega) (by omega) (by omega) (ex_10_2 ⟨by omega, by omega⟩ rfl (ex_28 ?_))))))))))))))
    rw [show (am_u2 (am_u1 (am_u2 I 208 0 0) 211 (am_cp ((am_u2 I 208 0 0) 210) ((am_u2 I 208 0 0) 211) (0) (5500 * k) i)) 211 ((5500 * k) + i) (I 210 i)) = (am_u1 (am_u2 I 208 0 0) 211 (am_cp ((am_u2 I 208 0 0) 210) ((am_u2 I 208 0 0) 211) (0) (5500 * k) (i + 1))) from cp_stepG (a := ((5500 * k) + i)) (b := i) (by omega) (by omega)]
    exact hki (fun k => ([some (.inr (.inr (some 208))), some (.inl (k : Int)), some (.inl ((i : Int) + 1))] : am_L).getD k none)
  · intro s e_i hsi hvi
    refine (ex_4_2 (ex_0 ?_))
    refine ex_ic3 (fun hc27 => ?_) (fun hc27 => by exfalso; omega)
    refine (ex_6_0 (ix_41r (sh_208 hS) (pt_208_5 hS) (ex_4_1 (ex_0 (ix_35z (j := k) (sh_212 hS) (by omega) (by omega) (by omega) (by decide) (ex_6_0 (ex_0 (ix_46 (S' := [(.inl 0)]) rfl (sh_208 hS) (c_tell_p hS (by omega)) rfl rfl ?_))))))))
    exact ex_53 rfl
theorem c_back_b {d : Nat} {G : am_G} {I : Nat → Nat → Int} {P : Nat → Nat → Option Nat} (hS : ST G P) {k : Int} (hk : ¬ (0 ≤ k ∧ k ≤ 1)) (hR1 : 0 ≤ I 209 1 ∧ I 209 1 ≤ 1000000) : am_call am_B am_M (d + 3) 173 [(.inr (.inr (some 208))), (.inl k)] (G, I, P) = some (some (.inl (-1)), (G, am_u2 (am_u2 (am_u2 I 208 0 0) 208 1 (-1)) 209 1 (I 209 1 + 1), P)) := by
  refine am_doL (L := [some (.inr (.inr (some 208))), some (.inl k), none]) (Nat.le_of_ble_eq_true rfl) rfl ?_
  refine (ex_6_0 (ex_0 (ix_42i (sh_208 hS) (ex_4_1 (ex_19 (ex_1 (ex_1 ?_)))))))
  have hb9 : ¬ (((0 : Int) ≤ k ∧ (k : Int) ≤ 1)) := by omega
  refine (ix_45 (S' := [(.inl 0)]) rfl (c_in_f hb9) rfl rfl (ex_if1 (fun hc => by exfalso; revert hc; decide) (fun _ => ?_)))
  refine (ex_6_0 (ex_0 (ix_46 (S' := [(.inl (-1))]) rfl (sh_208 hS) (c_tell_c hS (k := 1) (by decide) (by decide) (u2_q (by decide)) hR1) rfl rfl ?_)))
  exact ex_53 rfl
theorem c_back_n {d : Nat} {G : am_G} {I : Nat → Nat → Int} {P : Nat → Nat → Option Nat} (hS : ST G P) {k : Nat} (hk : k < 2) (hz : I 212 k = 0) (hR2 : 0 ≤ I 209 2 ∧ I 209 2 ≤ 1000000) : am_call am_B am_M (d + 3) 173 [(.inr (.inr (some 208))), (.inl (k : Int))] (G, I, P) = some (some (.inl (-2)), (G, am_u2 (am_u2 (am_u2 I 208 0 0) 208 1 (-2)) 209 2 (I 209 2 + 1), P)) := by
  refine am_doL (L := [some (.inr (.inr (some 208))), some (.inl (k : Int)), none]) (Nat.le_of_ble_eq_true rfl) rfl ?_
  refine (ex_6_0 (ex_0 (ix_42i (sh_208 hS) (ex_4_1 (ex_19 (ex_1 (ex_1 ?_)))))))
  have hb9 : ((0 : Int) ≤ (k : Int) ∧ ((k : Int) : Int) ≤ 1) := by omega
  refine (ix_45 (S' := [(.inl 1)]) rfl (c_in_t hb9) rfl rfl (ex_if1 (fun _ => ?_) (fun hc => by exfalso; revert hc; decide)))
  refine (ex_6_0 (ix_41r (sh_208 hS) (pt_208_5 hS) (ex_4_1 (ix_31 (j := k) (sh_212 hS) (by omega) (by omega) (by omega) ((u2_q (by decide)).trans hz) (ex_if1 (fun hc => by exfalso; revert hc; decide) (fun _ => ?_))))))
  refine (ex_6_0 (ex_0 (ix_46 (S' := [(.inl (-2))]) rfl (sh_208 hS) (c_tell_c hS (k := 2) (by decide) (by decide) (u2_q (by decide)) hR2) rfl rfl ?_)))
  exact ex_53 rfl
theorem c_back {d : Nat} {G : am_G} {I : Nat → Nat → Int} {P : Nat → Nat → Option Nat} (hS : ST G P) {k : Nat} (hk : k < 2) (hz : I 212 k = 1) : am_call am_B am_M (d + 3) 173 [(.inr (.inr (some 208))), (.inl (k : Int))] (G, I, P) = some (some (.inl 0), (G, am_u2 (am_u2 (am_u1 (am_u2 I 208 0 0) 210 (am_cp ((am_u2 I 208 0 0) 211) ((am_u2 I 208 0 0) 210) (5500 * k) (0) 5500)) 208 8 0) 208 1 0, P)) := by
  refine am_doL (L := [some (.inr (.inr (some 208))), some (.inl (k : Int)), none]) (Nat.le_of_ble_eq_true rfl) rfl ?_
  refine (ex_6_0 (ex_0 (ix_42i (sh_208 hS) (ex_4_1 (ex_19 (ex_1 (ex_1 ?_)))))))
  have hb9 : ((0 : Int) ≤ (k : Int) ∧ ((k : Int) : Int) ≤ 1) := by omega
  refine (ix_45 (S' := [(.inl 1)]) rfl (c_in_t hb9) rfl rfl (ex_if1 (fun _ => ?_) (fun hc => by exfalso; revert hc; decide)))
  refine (ex_6_0 (ix_41r (sh_208 hS) (pt_208_5 hS) (ex_4_1 (ix_31 (j := k) (sh_212 hS) (by omega) (by omega) (by omega) ((u2_q (by decide)).trans hz) (ex_if1 (fun _ => ?_) (fun hc => by exfalso; revert hc; decide))))))
  refine (ex_0 (ex_7_2 rfl (ex_58 ?_)))
  refine ex_forH (b := 5) (σ := Unit) (5500) (fun i s => s) (fun i s => True) (fun i s e_i => [some (.inr (.inr (some 208))), some (.inl (k : Int)), some (.inl (i : Int))]) (fun i s => (G, (am_u1 (am_u2 I 208 0 0) 210 (am_cp ((am_u2 I 208 0 0) 211) ((am_u2 I 208 0 0) 210) (5500 * k) (0) i)), P)) ?_ ?_ (5500) (0) (()) (fun k => ([some (.inr (.inr (some 208))), some (.inl (k : Int)), some (.inl 0)] : am_L).getD k none) (by omega) (trivial) rfl (congrArg (fun J => (G, J, P)) u1_cp0.symm) ?_
  · intro i s hii hvi
    exact trivial
  · intro i s e_i hii hvi s' hsi hki
    refine (ex_4_2 (ex_0 ?_))
    refine ex_ic3 (fun hc43 => by exfalso; omega) (fun hc43 => ?_)
    refine (ex_6_0 (ix_41r (sh_208 hS) (pt_208_3 hS) (ex_4_2 (ex_6_0 (ix_41r (sh_208 hS) (pt_208_4 hS) (ex_0 (ex_4_1 (ex_mul ⟨by omega, by omega⟩ (ex_4_2 (ex_add ⟨by omega, by omega⟩ (ix_30 (j := ((5500 * k) + i)) (sh_211 hS) (by omega) (by omega) (by omega) (((u1_qk (by decide))).trans (u2_q (by decide))) (ix_34 (j := i) (sh_210 hS) (by omega) (by omega) (by omega) (ex_10_2 ⟨by omega, by omega⟩ rfl (ex_28 ?_))))))))))))))
    rw [show (am_u2 (am_u1 (am_u2 I 208 0 0) 210 (am_cp ((am_u2 I 208 0 0) 211) ((am_u2 I 208 0 0) 210) (5500 * k) (0) i)) 210 i (I 211 ((5500 * k) + i))) = (am_u1 (am_u2 I 208 0 0) 210 (am_cp ((am_u2 I 208 0 0) 211) ((am_u2 I 208 0 0) 210) (5500 * k) (0) (i + 1))) from cp_stepG (a := i) (b := (5500 * k + i)) (by omega) (by omega)]
    exact hki (fun k => ([some (.inr (.inr (some 208))), some (.inl (k : Int)), some (.inl ((i : Int) + 1))] : am_L).getD k none)
  · intro s e_i hsi hvi
    refine (ex_4_2 (ex_0 ?_))
    refine ex_ic3 (fun hc43 => ?_) (fun hc43 => by exfalso; omega)
    refine (ex_6_0 (ex_0 (ix_46 (S' := [(.inl 0)]) rfl (sh_208 hS) (c_settled_p hS (by omega)) rfl rfl ?_)))
    exact ex_53 rfl
theorem c_isCloud_T {d : Nat} {G : am_G} {I : Nat → Nat → Int} {P : Nat → Nat → Option Nat} (hS : ST G P) {c n : Int} (hn : I 210 0 = n) (h0 : 0 ≤ n ∧ n ≤ 6) (hb : 0 ≤ c ∧ c < n) : am_call am_B am_M (d + 2) 174 [.inr (.inr (some 208)), .inl c] (G, I, P) = some (some (.inl 1), (G, I, P)) := by
  subst hn; exact c_isCloud_t hS h0 hb
theorem c_isCloud_F {d : Nat} {G : am_G} {I : Nat → Nat → Int} {P : Nat → Nat → Option Nat} (hS : ST G P) {c n : Int} (hn : I 210 0 = n) (h0 : 0 ≤ n ∧ n ≤ 6) (hb : ¬ (0 ≤ c ∧ c < n)) : am_call am_B am_M (d + 2) 174 [.inr (.inr (some 208)), .inl c] (G, I, P) = some (some (.inl 0), (G, I, P)) := by
  subst hn; exact c_isCloud_f hS h0 hb
theorem c_isFolk_T {d : Nat} {G : am_G} {I : Nat → Nat → Int} {P : Nat → Nat → Option Nat} (hS : ST G P) {c n : Int} (hn : I 210 1 = n) (h0 : 0 ≤ n ∧ n ≤ 5) (hb : 0 ≤ c ∧ c < n) : am_call am_B am_M (d + 2) 175 [.inr (.inr (some 208)), .inl c] (G, I, P) = some (some (.inl 1), (G, I, P)) := by
  subst hn; exact c_isFolk_t hS h0 hb
theorem c_isFolk_F {d : Nat} {G : am_G} {I : Nat → Nat → Int} {P : Nat → Nat → Option Nat} (hS : ST G P) {c n : Int} (hn : I 210 1 = n) (h0 : 0 ≤ n ∧ n ≤ 5) (hb : ¬ (0 ≤ c ∧ c < n)) : am_call am_B am_M (d + 2) 175 [.inr (.inr (some 208)), .inl c] (G, I, P) = some (some (.inl 0), (G, I, P)) := by
  subst hn; exact c_isFolk_f hS h0 hb
theorem c_change_e {d : Nat} {G : am_G} {I : Nat → Nat → Int} {P : Nat → Nat → Option Nat} (hS : ST G P) {k : Nat} {v x : Int} (hk : k < 5500) (hx : I 210 k = x) : am_call am_B am_M (d + 1) 166 [.inr (.inr (some 208)), .inl (k : Int), .inl v] (G, I, P) = some (some (.inl x), (G, am_u2 (am_u2 I 210 k v) 208 1 0, P)) := by
  subst hx; exact c_change hS hk
theorem m_cloud_b {d : Nat} {G : am_G} {I : Nat → Nat → Int} {P : Nat → Nat → Option Nat} (hS : ST G P) {kind rage box : Int} (hk : ¬ ((0 ≤ kind ∧ kind ≤ 4) ∧ (0 ≤ rage ∧ rage ≤ 9) ∧ (0 ≤ box ∧ box < 6))) (hR1 : 0 ≤ I 209 1 ∧ I 209 1 ≤ 1000000) : am_call am_B am_M (d + 3) 182 [(.inr (.inr (some 208))), (.inl kind), (.inl rage), (.inl box)] (G, I, P) = some (some (.inl (-1)), (G, am_u2 (am_u2 (am_u2 I 208 0 0) 208 1 (-1)) 209 1 (I 209 1 + 1), P)) := by
  refine am_doL (L := [some (.inr (.inr (some 208))), some (.inl kind), some (.inl rage), some (.inl box), none]) (Nat.le_of_ble_eq_true rfl) rfl ?_
  refine (ex_6_0 (ex_0 (ix_42i (sh_208 hS) (ex_4_1 (ex_19 (ex_1 (ex_1 ?_)))))))
  by_cases hb11 : ((0 : Int) ≤ kind ∧ (kind : Int) ≤ 4)
  · refine (ix_45 (S' := [(.inl 1)]) rfl (c_in_t hb11) rfl rfl (ex_if0 (fun hc => by exfalso; revert hc; decide) (fun _ => ?_)))
    refine (ex_4_2 (ex_19 (ex_1 (ex_1 ?_))))
    by_cases hb23 : ((0 : Int) ≤ rage ∧ (rage : Int) ≤ 9)
    · refine (ix_45 (S' := [(.inl 1)]) rfl (c_in_t hb23) rfl rfl (ex_if0 (fun hc => by exfalso; revert hc; decide) (fun _ => ?_)))
      refine (ex_4_3 ?_)
      have hb30 : ¬ (((0 : Int) ≤ box ∧ (box : Int) < 6)) := by omega
      refine (ix_45 (S' := [(.inl 0)]) rfl (c_isBox_f hb30) rfl rfl (ex_if1 (fun hc => by exfalso; revert hc; decide) (fun _ => ?_)))
      refine (ex_6_0 (ex_0 (ix_46 (S' := [(.inl (-1))]) rfl (sh_208 hS) (c_tell_c hS (k := 1) (by decide) (by decide) (u2_q (by decide)) hR1) rfl rfl ?_)))
      exact ex_53 rfl
    · refine (ix_45 (S' := [(.inl 0)]) rfl (c_in_f hb23) rfl rfl (ex_if0 (fun _ => ?_) (fun hc => by exfalso; revert hc; decide)))
      refine (ex_6_0 (ex_0 (ix_46 (S' := [(.inl (-1))]) rfl (sh_208 hS) (c_tell_c hS (k := 1) (by decide) (by decide) (u2_q (by decide)) hR1) rfl rfl ?_)))
      exact ex_53 rfl
  · refine (ix_45 (S' := [(.inl 0)]) rfl (c_in_f hb11) rfl rfl (ex_if0 (fun _ => ?_) (fun hc => by exfalso; revert hc; decide)))
    refine (ex_6_0 (ex_0 (ix_46 (S' := [(.inl (-1))]) rfl (sh_208 hS) (c_tell_c hS (k := 1) (by decide) (by decide) (u2_q (by decide)) hR1) rfl rfl ?_)))
    exact ex_53 rfl
theorem m_cloud_n {d : Nat} {G : am_G} {I : Nat → Nat → Int} {P : Nat → Nat → Option Nat} (hS : ST G P) {kind rage box : Int} (hk : 0 ≤ kind ∧ kind ≤ 4) (hr : 0 ≤ rage ∧ rage ≤ 9) (hb : 0 ≤ box ∧ box < 6) (hn : I 210 0 = 6) (hR5 : 0 ≤ I 209 5 ∧ I 209 5 ≤ 1000000) : am_call am_B am_M (d + 3) 182 [(.inr (.inr (some 208))), (.inl kind), (.inl rage), (.inl box)] (G, I, P) = some (some (.inl (-5)), (G, am_u2 (am_u2 (am_u2 I 208 0 0) 208 1 (-5)) 209 5 (I 209 5 + 1), P)) := by
  refine am_doL (L := [some (.inr (.inr (some 208))), some (.inl kind), some (.inl rage), some (.inl box), none]) (Nat.le_of_ble_eq_true rfl) rfl ?_
  refine (ex_6_0 (ex_0 (ix_42i (sh_208 hS) (ex_4_1 (ex_19 (ex_1 (ex_1 ?_)))))))
  have hb11 : ((0 : Int) ≤ kind ∧ (kind : Int) ≤ 4) := by omega
  refine (ix_45 (S' := [(.inl 1)]) rfl (c_in_t hb11) rfl rfl (ex_if0 (fun hc => by exfalso; revert hc; decide) (fun _ => ?_)))
  refine (ex_4_2 (ex_19 (ex_1 (ex_1 ?_))))
  have hb23 : ((0 : Int) ≤ rage ∧ (rage : Int) ≤ 9) := by omega
  refine (ix_45 (S' := [(.inl 1)]) rfl (c_in_t hb23) rfl rfl (ex_if0 (fun hc => by exfalso; revert hc; decide) (fun _ => ?_)))
  refine (ex_4_3 ?_)
  have hb30 : ((0 : Int) ≤ box ∧ (box : Int) < 6) := by omega
  refine (ix_45 (S' := [(.inl 1)]) rfl (c_isBox_t hb30) rfl rfl (ex_if1 (fun _ => ?_) (fun hc => by exfalso; revert hc; decide)))
  refine (ex_6_0 (ix_41r (sh_208 hS) (pt_208_3 hS) (ex_0 (ix_30 (j := 0) (sh_210 hS) (by decide) (by decide) rfl ((u2_q (by decide)).trans hn) (ex_7_4 rfl (ex_4_4 (ex_0 (ex_ic1 (fun hc => by exfalso; revert hc; decide) (fun _ => ?_)))))))))
  refine (ex_6_0 (ex_0 (ix_46 (S' := [(.inl (-5))]) rfl (sh_208 hS) (c_tell_c hS (k := 5) (by decide) (by decide) (u2_q (by decide)) hR5) rfl rfl ?_)))
  exact ex_53 rfl
theorem m_cloud {d : Nat} {G : am_G} {I : Nat → Nat → Int} {P : Nat → Nat → Option Nat} (hS : ST G P) {kind rage box : Int} (hk : 0 ≤ kind ∧ kind ≤ 4) (hr : 0 ≤ rage ∧ rage ≤ 9) (hb : 0 ≤ box ∧ box < 6) {n : Nat} (hn : I 210 0 = (n : Int)) (hl : n < 6) : am_call am_B am_M (d + 3) 182 [(.inr (.inr (some 208))), (.inl kind), (.inl rage), (.inl box)] (G, I, P) = some (some (.inl (n : Int)), (G, (am_u2 (am_u2 (am_u2 (am_u2 (am_u2 (am_u2 (am_u2 I 208 0 0) 210 (30 + n) kind) 210 (36 + n) rage) 210 (9 + n) box) 210 0 ((n : Int) + 1)) 208 8 0) 208 1 0), P)) := by
  refine am_doL (L := [some (.inr (.inr (some 208))), some (.inl kind), some (.inl rage), some (.inl box), none]) (Nat.le_of_ble_eq_true rfl) rfl ?_
  refine (ex_6_0 (ex_0 (ix_42i (sh_208 hS) (ex_4_1 (ex_19 (ex_1 (ex_1 ?_)))))))
  have hb11 : ((0 : Int) ≤ kind ∧ (kind : Int) ≤ 4) := by omega
  refine (ix_45 (S' := [(.inl 1)]) rfl (c_in_t hb11) rfl rfl (ex_if0 (fun hc => by exfalso; revert hc; decide) (fun _ => ?_)))
  refine (ex_4_2 (ex_19 (ex_1 (ex_1 ?_))))
  have hb23 : ((0 : Int) ≤ rage ∧ (rage : Int) ≤ 9) := by omega
  refine (ix_45 (S' := [(.inl 1)]) rfl (c_in_t hb23) rfl rfl (ex_if0 (fun hc => by exfalso; revert hc; decide) (fun _ => ?_)))
  refine (ex_4_3 ?_)
  have hb30 : ((0 : Int) ≤ box ∧ (box : Int) < 6) := by omega
  refine (ix_45 (S' := [(.inl 1)]) rfl (c_isBox_t hb30) rfl rfl (ex_if1 (fun _ => ?_) (fun hc => by exfalso; revert hc; decide)))
  refine (ex_6_0 (ix_41r (sh_208 hS) (pt_208_3 hS) (ex_0 (ix_30 (j := 0) (sh_210 hS) (by decide) (by decide) rfl ((u2_q (by decide)).trans hn) (ex_7_4 rfl (ex_4_4 (ex_0 ?_)))))))
  refine ex_ic1 (fun hc54 => ?_) (fun hc54 => by exfalso; omega)
  refine (ex_6_0 (ix_41r (sh_208 hS) (pt_208_3 hS) (ex_0 (ex_4_4 (ex_add ⟨by omega, by omega⟩ (ex_4_1 (ix_34 (j := (30 + n)) (sh_210 hS) (by omega) (by omega) (by omega) (ex_6_0 (ix_41r (sh_208 hS) (pt_208_3 hS) (ex_0 (ex_4_4 (ex_add ⟨by omega, by omega⟩ (ex_4_2 (ix_34 (j := (36 + n)) (sh_210 hS) (by omega) (by omega) (by omega) (ex_6_0 (ix_41r (sh_208 hS) (pt_208_3 hS) (ex_0 (ex_4_4 (ex_add ⟨by omega, by omega⟩ (ex_4_3 (ix_34 (j := (9 + n)) (sh_210 hS) (by omega) (by omega) (by omega) (ex_6_0 (ix_41r (sh_208 hS) (pt_208_3 hS) (ex_0 (ex_23 rfl (ix_30 (j := 0) (sh_210 hS) (by decide) (by decide) rfl ((u2_k (by omega)).trans ((u2_k (by omega)).trans ((u2_k (by omega)).trans ((u2_q (by decide)).trans hn)))) (ex_0 (ex_add ⟨by omega, by omega⟩ (ix_34 (j := 0) (sh_210 hS) (by decide) (by decide) rfl (ex_6_0 (ex_4_4 (ix_46 (S' := [(.inl (n : Int))]) rfl (sh_208 hS) (c_settled_p hS (by omega)) rfl rfl ?_))))))))))))))))))))))))))))))))
  exact ex_53 rfl
theorem m_folk_b {d : Nat} {G : am_G} {I : Nat → Nat → Int} {P : Nat → Nat → Option Nat} (hS : ST G P) {box ears : Int} (hk : ¬ ((0 ≤ box ∧ box < 6) ∧ (0 ≤ ears ∧ ears ≤ 31))) (hR1 : 0 ≤ I 209 1 ∧ I 209 1 ≤ 1000000) : am_call am_B am_M (d + 3) 184 [(.inr (.inr (some 208))), (.inl box), (.inl ears)] (G, I, P) = some (some (.inl (-1)), (G, am_u2 (am_u2 (am_u2 I 208 0 0) 208 1 (-1)) 209 1 (I 209 1 + 1), P)) := by
  refine am_doL (L := [some (.inr (.inr (some 208))), some (.inl box), some (.inl ears), none]) (Nat.le_of_ble_eq_true rfl) rfl ?_
  refine (ex_6_0 (ex_0 (ix_42i (sh_208 hS) (ex_4_1 ?_))))
  by_cases hb6 : ((0 : Int) ≤ box ∧ (box : Int) < 6)
  · refine (ix_45 (S' := [(.inl 1)]) rfl (c_isBox_t hb6) rfl rfl (ex_if0 (fun hc => by exfalso; revert hc; decide) (fun _ => ?_)))
    refine (ex_4_2 (ex_19 (ex_1 (ex_1 ?_))))
    have hb18 : ¬ (((0 : Int) ≤ ears ∧ (ears : Int) ≤ 31)) := by omega
    refine (ix_45 (S' := [(.inl 0)]) rfl (c_in_f hb18) rfl rfl (ex_if1 (fun hc => by exfalso; revert hc; decide) (fun _ => ?_)))
    refine (ex_6_0 (ex_0 (ix_46 (S' := [(.inl (-1))]) rfl (sh_208 hS) (c_tell_c hS (k := 1) (by decide) (by decide) (u2_q (by decide)) hR1) rfl rfl ?_)))
    exact ex_53 rfl
  · refine (ix_45 (S' := [(.inl 0)]) rfl (c_isBox_f hb6) rfl rfl (ex_if0 (fun _ => ?_) (fun hc => by exfalso; revert hc; decide)))
    refine (ex_6_0 (ex_0 (ix_46 (S' := [(.inl (-1))]) rfl (sh_208 hS) (c_tell_c hS (k := 1) (by decide) (by decide) (u2_q (by decide)) hR1) rfl rfl ?_)))
    exact ex_53 rfl
theorem m_folk_n {d : Nat} {G : am_G} {I : Nat → Nat → Int} {P : Nat → Nat → Option Nat} (hS : ST G P) {box ears : Int} (hb : 0 ≤ box ∧ box < 6) (he : 0 ≤ ears ∧ ears ≤ 31) (hn : I 210 1 = 5) (hR5 : 0 ≤ I 209 5 ∧ I 209 5 ≤ 1000000) : am_call am_B am_M (d + 3) 184 [(.inr (.inr (some 208))), (.inl box), (.inl ears)] (G, I, P) = some (some (.inl (-5)), (G, am_u2 (am_u2 (am_u2 I 208 0 0) 208 1 (-5)) 209 5 (I 209 5 + 1), P)) := by
  refine am_doL (L := [some (.inr (.inr (some 208))), some (.inl box), some (.inl ears), none]) (Nat.le_of_ble_eq_true rfl) rfl ?_
  refine (ex_6_0 (ex_0 (ix_42i (sh_208 hS) (ex_4_1 ?_))))
  have hb6 : ((0 : Int) ≤ box ∧ (box : Int) < 6) := by omega
  refine (ix_45 (S' := [(.inl 1)]) rfl (c_isBox_t hb6) rfl rfl (ex_if0 (fun hc => by exfalso; revert hc; decide) (fun _ => ?_)))
  refine (ex_4_2 (ex_19 (ex_1 (ex_1 ?_))))
  have hb18 : ((0 : Int) ≤ ears ∧ (ears : Int) ≤ 31) := by omega
  refine (ix_45 (S' := [(.inl 1)]) rfl (c_in_t hb18) rfl rfl (ex_if1 (fun _ => ?_) (fun hc => by exfalso; revert hc; decide)))
  refine (ex_6_0 (ix_41r (sh_208 hS) (pt_208_3 hS) (ex_0 (ix_30 (j := 1) (sh_210 hS) (by decide) (by decide) rfl ((u2_q (by decide)).trans hn) (ex_7_3 rfl (ex_4_3 (ex_0 (ex_ic1 (fun hc => by exfalso; revert hc; decide) (fun _ => ?_)))))))))
  refine (ex_6_0 (ex_0 (ix_46 (S' := [(.inl (-5))]) rfl (sh_208 hS) (c_tell_c hS (k := 5) (by decide) (by decide) (u2_q (by decide)) hR5) rfl rfl ?_)))
  exact ex_53 rfl
theorem m_folk {d : Nat} {G : am_G} {I : Nat → Nat → Int} {P : Nat → Nat → Option Nat} (hS : ST G P) {box ears : Int} (hb : 0 ≤ box ∧ box < 6) (he : 0 ≤ ears ∧ ears ≤ 31) {n : Nat} (hn : I 210 1 = (n : Int)) (hl : n < 5) : am_call am_B am_M (d + 3) 184 [(.inr (.inr (some 208))), (.inl box), (.inl ears)] (G, I, P) = some (some (.inl (n : Int)), (G, (am_u2 (am_u2 (am_u2 (am_u2 (am_u2 (am_u2 (am_u2 (am_u2 (am_u2 I 208 0 0) 210 (42 + n) box) 210 (47 + n) ears) 210 (15 + n) 0) 210 (20 + n) 0) 210 (25 + n) 0) 210 1 ((n : Int) + 1)) 208 8 0) 208 1 0), P)) := by
  refine am_doL (L := [some (.inr (.inr (some 208))), some (.inl box), some (.inl ears), none]) (Nat.le_of_ble_eq_true rfl) rfl ?_
  refine (ex_6_0 (ex_0 (ix_42i (sh_208 hS) (ex_4_1 ?_))))
  have hb6 : ((0 : Int) ≤ box ∧ (box : Int) < 6) := by omega
  refine (ix_45 (S' := [(.inl 1)]) rfl (c_isBox_t hb6) rfl rfl (ex_if0 (fun hc => by exfalso; revert hc; decide) (fun _ => ?_)))
  refine (ex_4_2 (ex_19 (ex_1 (ex_1 ?_))))
  have hb18 : ((0 : Int) ≤ ears ∧ (ears : Int) ≤ 31) := by omega
  refine (ix_45 (S' := [(.inl 1)]) rfl (c_in_t hb18) rfl rfl (ex_if1 (fun _ => ?_) (fun hc => by exfalso; revert hc; decide)))
  refine (ex_6_0 (ix_41r (sh_208 hS) (pt_208_3 hS) (ex_0 (ix_30 (j := 1) (sh_210 hS) (by decide) (by decide) rfl ((u2_q (by decide)).trans hn) (ex_7_3 rfl (ex_4_3 (ex_0 ?_)))))))
  refine ex_ic1 (fun hc39 => ?_) (fun hc39 => by exfalso; omega)
  refine (ex_6_0 (ix_41r (sh_208 hS) (pt_208_3 hS) (ex_0 (ex_4_3 (ex_add ⟨by omega, by omega⟩ (ex_4_1 (ix_34 (j := (42 + n)) (sh_210 hS) (by omega) (by omega) (by omega) (ex_6_0 (ix_41r (sh_208 hS) (pt_208_3 hS) (ex_0 (ex_4_3 (ex_add ⟨by omega, by omega⟩ (ex_4_2 (ix_34 (j := (47 + n)) (sh_210 hS) (by omega) (by omega) (by omega) (ex_6_0 (ix_41r (sh_208 hS) (pt_208_3 hS) (ex_0 (ex_4_3 (ex_add ⟨by omega, by omega⟩ (ex_0 (ix_34 (j := (15 + n)) (sh_210 hS) (by omega) (by omega) (by omega) (ex_6_0 (ix_41r (sh_208 hS) (pt_208_3 hS) (ex_0 (ex_4_3 (ex_add ⟨by omega, by omega⟩ (ex_0 (ix_34 (j := (20 + n)) (sh_210 hS) (by omega) (by omega) (by omega) (ex_6_0 (ix_41r (sh_208 hS) (pt_208_3 hS) (ex_0 (ex_4_3 (ex_add ⟨by omega, by omega⟩ (ex_0 (ix_34 (j := (25 + n)) (sh_210 hS) (by omega) (by omega) (by omega) (ex_6_0 (ix_41r (sh_208 hS) (pt_208_3 hS) (ex_0 (ex_23 rfl (ix_30 (j := 1) (sh_210 hS) (by decide) (by decide) rfl ((u2_k (by omega)).trans ((u2_k (by omega)).trans ((u2_k (by omega)).trans ((u2_k (by omega)).trans ((u2_k (by omega)).trans ((u2_q (by decide)).trans hn)))))) (ex_0 (ex_add ⟨by omega, by omega⟩ (ix_34 (j := 1) (sh_210 hS) (by decide) (by decide) rfl (ex_6_0 (ex_4_3 (ix_46 (S' := [(.inl (n : Int))]) rfl (sh_208 hS) (c_settled_p hS (by omega)) rfl rfl ?_))))))))))))))))))))))))))))))))))))))))))))))
  exact ex_53 rfl
theorem m_at_b {d : Nat} {G : am_G} {I : Nat → Nat → Int} {P : Nat → Nat → Option Nat} (hS : ST G P) {f w : Int} (h1 : 0 ≤ I 210 1 ∧ I 210 1 ≤ 5) (hf : ¬ (0 ≤ f ∧ f < I 210 1)) : am_call am_B am_M (d + 3) 185 [(.inr (.inr (some 208))), (.inl f), (.inl w)] (G, I, P) = some (some (.inl (-1)), (G, (am_u2 I 208 0 0), P)) := by
  refine am_doL (L := [some (.inr (.inr (some 208))), some (.inl f), some (.inl w)]) (Nat.le_of_ble_eq_true rfl) rfl ?_
  refine (ex_6_0 (ex_0 (ix_42i (sh_208 hS) (ex_6_0 (ex_4_1 ?_)))))
  have hb7 : ¬ (((0 : Int) ≤ f ∧ (f : Int) < (I 210 1))) := by omega
  refine (ix_46 (S' := [(.inl 0)]) rfl (sh_208 hS) (c_isFolk_F hS (u2_q (by decide)) (by omega) hb7) rfl rfl (ex_if1 (fun hc => by exfalso; revert hc; decide) (fun _ => ?_)))
  refine (ex_0 ?_)
  exact ex_53 rfl
theorem m_at_0 {d : Nat} {G : am_G} {I : Nat → Nat → Int} {P : Nat → Nat → Option Nat} (hS : ST G P) {f : Nat} (h1 : 0 ≤ I 210 1 ∧ I 210 1 ≤ 5) (hf : (f : Int) < I 210 1) : am_call am_B am_M (d + 3) 185 [(.inr (.inr (some 208))), (.inl (f : Int)), (.inl 0)] (G, I, P) = some (some (.inl (I 210 (42 + f))), (G, (am_u2 I 208 0 0), P)) := by
  refine am_doL (L := [some (.inr (.inr (some 208))), some (.inl (f : Int)), some (.inl 0)]) (Nat.le_of_ble_eq_true rfl) rfl ?_
  refine (ex_6_0 (ex_0 (ix_42i (sh_208 hS) (ex_6_0 (ex_4_1 ?_)))))
  have hb7 : ((0 : Int) ≤ (f : Int) ∧ ((f : Int) : Int) < (I 210 1)) := by omega
  refine (ix_46 (S' := [(.inl 1)]) rfl (sh_208 hS) (c_isFolk_T hS (u2_q (by decide)) (by omega) hb7) rfl rfl (ex_if1 (fun _ => ?_) (fun hc => by exfalso; revert hc; decide)))
  refine (ex_4_2 (ex_29i 0 rfl rfl (ex_6_0 (ix_41r (sh_208 hS) (pt_208_3 hS) (ex_0 (ex_4_1 (ex_add ⟨by omega, by omega⟩ (ix_30 (j := (42 + f)) (sh_210 hS) (by omega) (by omega) (by omega) (u2_q (by decide)) ?_))))))))
  exact ex_53 rfl
theorem m_at_1 {d : Nat} {G : am_G} {I : Nat → Nat → Int} {P : Nat → Nat → Option Nat} (hS : ST G P) {f : Nat} (h1 : 0 ≤ I 210 1 ∧ I 210 1 ≤ 5) (hf : (f : Int) < I 210 1) : am_call am_B am_M (d + 3) 185 [(.inr (.inr (some 208))), (.inl (f : Int)), (.inl 1)] (G, I, P) = some (some (.inl (I 210 (47 + f))), (G, (am_u2 I 208 0 0), P)) := by
  refine am_doL (L := [some (.inr (.inr (some 208))), some (.inl (f : Int)), some (.inl 1)]) (Nat.le_of_ble_eq_true rfl) rfl ?_
  refine (ex_6_0 (ex_0 (ix_42i (sh_208 hS) (ex_6_0 (ex_4_1 ?_)))))
  have hb7 : ((0 : Int) ≤ (f : Int) ∧ ((f : Int) : Int) < (I 210 1)) := by omega
  refine (ix_46 (S' := [(.inl 1)]) rfl (sh_208 hS) (c_isFolk_T hS (u2_q (by decide)) (by omega) hb7) rfl rfl (ex_if1 (fun _ => ?_) (fun hc => by exfalso; revert hc; decide)))
  refine (ex_4_2 (ex_29i 1 rfl rfl (ex_6_0 (ix_41r (sh_208 hS) (pt_208_3 hS) (ex_0 (ex_4_1 (ex_add ⟨by omega, by omega⟩ (ix_30 (j := (47 + f)) (sh_210 hS) (by omega) (by omega) (by omega) (u2_q (by decide)) ?_))))))))
  exact ex_53 rfl
theorem m_at_2 {d : Nat} {G : am_G} {I : Nat → Nat → Int} {P : Nat → Nat → Option Nat} (hS : ST G P) {f : Nat} (h1 : 0 ≤ I 210 1 ∧ I 210 1 ≤ 5) (hf : (f : Int) < I 210 1) : am_call am_B am_M (d + 3) 185 [(.inr (.inr (some 208))), (.inl (f : Int)), (.inl 2)] (G, I, P) = some (some (.inl (I 210 (15 + f))), (G, (am_u2 I 208 0 0), P)) := by
  refine am_doL (L := [some (.inr (.inr (some 208))), some (.inl (f : Int)), some (.inl 2)]) (Nat.le_of_ble_eq_true rfl) rfl ?_
  refine (ex_6_0 (ex_0 (ix_42i (sh_208 hS) (ex_6_0 (ex_4_1 ?_)))))
  have hb7 : ((0 : Int) ≤ (f : Int) ∧ ((f : Int) : Int) < (I 210 1)) := by omega
  refine (ix_46 (S' := [(.inl 1)]) rfl (sh_208 hS) (c_isFolk_T hS (u2_q (by decide)) (by omega) hb7) rfl rfl (ex_if1 (fun _ => ?_) (fun hc => by exfalso; revert hc; decide)))
  refine (ex_4_2 (ex_29i 2 rfl rfl (ex_6_0 (ix_41r (sh_208 hS) (pt_208_3 hS) (ex_0 (ex_4_1 (ex_add ⟨by omega, by omega⟩ (ix_30 (j := (15 + f)) (sh_210 hS) (by omega) (by omega) (by omega) (u2_q (by decide)) ?_))))))))
  exact ex_53 rfl
theorem m_at_3 {d : Nat} {G : am_G} {I : Nat → Nat → Int} {P : Nat → Nat → Option Nat} (hS : ST G P) {f : Nat} (h1 : 0 ≤ I 210 1 ∧ I 210 1 ≤ 5) (hf : (f : Int) < I 210 1) : am_call am_B am_M (d + 3) 185 [(.inr (.inr (some 208))), (.inl (f : Int)), (.inl 3)] (G, I, P) = some (some (.inl (I 210 (20 + f))), (G, (am_u2 I 208 0 0), P)) := by
  refine am_doL (L := [some (.inr (.inr (some 208))), some (.inl (f : Int)), some (.inl 3)]) (Nat.le_of_ble_eq_true rfl) rfl ?_
  refine (ex_6_0 (ex_0 (ix_42i (sh_208 hS) (ex_6_0 (ex_4_1 ?_)))))
  have hb7 : ((0 : Int) ≤ (f : Int) ∧ ((f : Int) : Int) < (I 210 1)) := by omega
  refine (ix_46 (S' := [(.inl 1)]) rfl (sh_208 hS) (c_isFolk_T hS (u2_q (by decide)) (by omega) hb7) rfl rfl (ex_if1 (fun _ => ?_) (fun hc => by exfalso; revert hc; decide)))
  refine (ex_4_2 (ex_29i 3 rfl rfl (ex_6_0 (ix_41r (sh_208 hS) (pt_208_3 hS) (ex_0 (ex_4_1 (ex_add ⟨by omega, by omega⟩ (ix_30 (j := (20 + f)) (sh_210 hS) (by omega) (by omega) (by omega) (u2_q (by decide)) ?_))))))))
  exact ex_53 rfl
theorem m_at_4 {d : Nat} {G : am_G} {I : Nat → Nat → Int} {P : Nat → Nat → Option Nat} (hS : ST G P) {f : Nat} (h1 : 0 ≤ I 210 1 ∧ I 210 1 ≤ 5) (hf : (f : Int) < I 210 1) : am_call am_B am_M (d + 3) 185 [(.inr (.inr (some 208))), (.inl (f : Int)), (.inl 4)] (G, I, P) = some (some (.inl (I 210 (25 + f))), (G, (am_u2 I 208 0 0), P)) := by
  refine am_doL (L := [some (.inr (.inr (some 208))), some (.inl (f : Int)), some (.inl 4)]) (Nat.le_of_ble_eq_true rfl) rfl ?_
  refine (ex_6_0 (ex_0 (ix_42i (sh_208 hS) (ex_6_0 (ex_4_1 ?_)))))
  have hb7 : ((0 : Int) ≤ (f : Int) ∧ ((f : Int) : Int) < (I 210 1)) := by omega
  refine (ix_46 (S' := [(.inl 1)]) rfl (sh_208 hS) (c_isFolk_T hS (u2_q (by decide)) (by omega) hb7) rfl rfl (ex_if1 (fun _ => ?_) (fun hc => by exfalso; revert hc; decide)))
  refine (ex_4_2 (ex_29i 4 rfl rfl (ex_6_0 (ix_41r (sh_208 hS) (pt_208_3 hS) (ex_0 (ex_4_1 (ex_add ⟨by omega, by omega⟩ (ix_30 (j := (25 + f)) (sh_210 hS) (by omega) (by omega) (by omega) (u2_q (by decide)) ?_))))))))
  exact ex_53 rfl
theorem m_at_o {d : Nat} {G : am_G} {I : Nat → Nat → Int} {P : Nat → Nat → Option Nat} (hS : ST G P) {f : Nat} {w : Int} (h1 : 0 ≤ I 210 1 ∧ I 210 1 ≤ 5) (hf : (f : Int) < I 210 1) (hw : ¬ (0 ≤ w ∧ w < 5)) : am_call am_B am_M (d + 3) 185 [(.inr (.inr (some 208))), (.inl (f : Int)), (.inl w)] (G, I, P) = some (some (.inl (-1)), (G, (am_u2 I 208 0 0), P)) := by
  refine am_doL (L := [some (.inr (.inr (some 208))), some (.inl (f : Int)), some (.inl w)]) (Nat.le_of_ble_eq_true rfl) rfl ?_
  refine (ex_6_0 (ex_0 (ix_42i (sh_208 hS) (ex_6_0 (ex_4_1 ?_)))))
  have hb7 : ((0 : Int) ≤ (f : Int) ∧ ((f : Int) : Int) < (I 210 1)) := by omega
  refine (ix_46 (S' := [(.inl 1)]) rfl (sh_208 hS) (c_isFolk_T hS (u2_q (by decide)) (by omega) hb7) rfl rfl (ex_if1 (fun _ => ?_) (fun hc => by exfalso; revert hc; decide)))
  refine (ex_4_2 (ex_29o (by simp only [List.length_cons, List.length_nil]; omega) (ex_0 ?_)))
  exact ex_53 rfl
theorem c_isRoad_t {d : Nat} {G : am_G} {I : Nat → Nat → Int} {P : Nat → Nat → Option Nat} {one other len : Int} (hb : (0 ≤ one ∧ one < 6) ∧ (0 ≤ other ∧ other < 6) ∧ ¬ one = other ∧ (0 ≤ len ∧ len ≤ 9)) : am_call am_B am_M (d + 3) 187 [(.inl one), (.inl other), (.inl len)] (G, I, P) = some (some (.inl 1), (G, I, P)) := by
  refine am_doL (L := [some (.inl one), some (.inl other), some (.inl len)]) (Nat.le_of_ble_eq_true rfl) rfl ?_
  refine (ex_4_0 ?_)
  have hb1 : ((0 : Int) ≤ one ∧ (one : Int) < 6) := by omega
  refine (ix_45 (S' := [(.inl 1)]) rfl (c_isBox_t hb1) rfl rfl (ex_if0 (fun hc => by exfalso; revert hc; decide) (fun _ => ?_)))
  refine (ex_4_1 ?_)
  have hb8 : ((0 : Int) ≤ other ∧ (other : Int) < 6) := by omega
  refine (ix_45 (S' := [(.inl 1)]) rfl (c_isBox_t hb8) rfl rfl (ex_if0 (fun hc => by exfalso; revert hc; decide) (fun _ => ?_)))
  refine (ex_4_0 (ex_4_1 ?_))
  refine ex_ic0 (fun hc16 => by exfalso; omega) (fun hc16 => ?_)
  refine (ex_4_2 (ex_19 (ex_1 (ex_1 ?_))))
  have hb25 : ((0 : Int) ≤ len ∧ (len : Int) ≤ 9) := by omega
  refine (ix_45 (S' := [(.inl 1)]) rfl (c_in_t hb25) rfl rfl (ex_if0 (fun hc => by exfalso; revert hc; decide) (fun _ => ?_)))
  refine (ex_0 (ex_28 ?_))
  exact ex_57 (by decide) rfl
theorem c_isRoad_f {d : Nat} {G : am_G} {I : Nat → Nat → Int} {P : Nat → Nat → Option Nat} {one other len : Int} (hb : ¬ ((0 ≤ one ∧ one < 6) ∧ (0 ≤ other ∧ other < 6) ∧ ¬ one = other ∧ (0 ≤ len ∧ len ≤ 9))) : am_call am_B am_M (d + 3) 187 [(.inl one), (.inl other), (.inl len)] (G, I, P) = some (some (.inl 0), (G, I, P)) := by
  refine am_doL (L := [some (.inl one), some (.inl other), some (.inl len)]) (Nat.le_of_ble_eq_true rfl) rfl ?_
  refine (ex_4_0 ?_)
  by_cases hb1 : ((0 : Int) ≤ one ∧ (one : Int) < 6)
  · refine (ix_45 (S' := [(.inl 1)]) rfl (c_isBox_t hb1) rfl rfl (ex_if0 (fun hc => by exfalso; revert hc; decide) (fun _ => ?_)))
    refine (ex_4_1 ?_)
    by_cases hb8 : ((0 : Int) ≤ other ∧ (other : Int) < 6)
    · refine (ix_45 (S' := [(.inl 1)]) rfl (c_isBox_t hb8) rfl rfl (ex_if0 (fun hc => by exfalso; revert hc; decide) (fun _ => ?_)))
      refine (ex_4_0 (ex_4_1 ?_))
      refine ex_ic0 (fun hc16 => ?_) (fun hc16 => ?_)
      · refine (ex_0 (ex_58 ?_))
        exact ex_57 (by decide) rfl
      · refine (ex_4_2 (ex_19 (ex_1 (ex_1 ?_))))
        have hb25 : ¬ (((0 : Int) ≤ len ∧ (len : Int) ≤ 9)) := by omega
        refine (ix_45 (S' := [(.inl 0)]) rfl (c_in_f hb25) rfl rfl (ex_if0 (fun _ => ?_) (fun hc => by exfalso; revert hc; decide)))
        refine (ex_0 (ex_58 ?_))
        exact ex_57 (by decide) rfl
    · refine (ix_45 (S' := [(.inl 0)]) rfl (c_isBox_f hb8) rfl rfl (ex_if0 (fun _ => ?_) (fun hc => by exfalso; revert hc; decide)))
      refine (ex_0 (ex_58 ?_))
      exact ex_57 (by decide) rfl
  · refine (ix_45 (S' := [(.inl 0)]) rfl (c_isBox_f hb1) rfl rfl (ex_if0 (fun _ => ?_) (fun hc => by exfalso; revert hc; decide)))
    refine (ex_0 (ex_58 ?_))
    exact ex_57 (by decide) rfl
theorem c_setRoad {d : Nat} {G : am_G} {I : Nat → Nat → Int} {P : Nat → Nat → Option Nat} (hS : ST G P) {b o : Nat} {len : Int} (hb : b < 6) (ho : o < 6) : am_call am_B am_M (d + 1) 188 [(.inr (.inr (some 208))), (.inl (b : Int)), (.inl (o : Int)), (.inl len)] (G, I, P) = some (none, (G, am_u2 (am_u2 I 210 (52 + 6 * b + o) len) 210 (52 + 6 * o + b) len, P)) := by
  refine am_doL (L := [some (.inr (.inr (some 208))), some (.inl (b : Int)), some (.inl (o : Int)), some (.inl len)]) (Nat.le_of_ble_eq_true rfl) rfl ?_
  refine (ex_6_0 (ix_41r (sh_208 hS) (pt_208_3 hS) (ex_0 (ex_0 (ex_4_1 (ex_mul ⟨by omega, by omega⟩ (ex_add ⟨by omega, by omega⟩ (ex_4_2 (ex_add ⟨by omega, by omega⟩ (ex_4_3 (ix_34 (j := ((52 + (6 * b)) + o)) (sh_210 hS) (by omega) (by omega) (by omega) (ex_6_0 (ix_41r (sh_208 hS) (pt_208_3 hS) (ex_0 (ex_0 (ex_4_2 (ex_mul ⟨by omega, by omega⟩ (ex_add ⟨by omega, by omega⟩ (ex_4_1 (ex_add ⟨by omega, by omega⟩ (ex_4_3 (ix_34 (j := ((52 + (6 * o)) + b)) (sh_210 hS) (by omega) (by omega) (by omega) ?_))))))))))))))))))))))
  exact ex_56 rfl
theorem m_road_b {d : Nat} {G : am_G} {I : Nat → Nat → Int} {P : Nat → Nat → Option Nat} (hS : ST G P) {one other len : Int} (hk : ¬ ((0 ≤ one ∧ one < 6) ∧ (0 ≤ other ∧ other < 6) ∧ ¬ one = other ∧ (0 ≤ len ∧ len ≤ 9))) (hR1 : 0 ≤ I 209 1 ∧ I 209 1 ≤ 1000000) : am_call am_B am_M (d + 4) 189 [(.inr (.inr (some 208))), (.inl one), (.inl other), (.inl len)] (G, I, P) = some (some (.inl (-1)), (G, am_u2 (am_u2 (am_u2 I 208 0 0) 208 1 (-1)) 209 1 (I 209 1 + 1), P)) := by
  refine am_doL (L := [some (.inr (.inr (some 208))), some (.inl one), some (.inl other), some (.inl len), none]) (Nat.le_of_ble_eq_true rfl) rfl ?_
  refine (ex_6_0 (ex_0 (ix_42i (sh_208 hS) (ex_4_1 (ex_4_2 (ex_4_3 ?_))))))
  have hb8 : ¬ ((((0 : Int) ≤ one ∧ one < 6) ∧ (0 ≤ other ∧ other < 6) ∧ ¬ one = other ∧ (0 ≤ len ∧ len ≤ 9))) := by omega
  refine (ix_45 (S' := [(.inl 0)]) rfl (c_isRoad_f hb8) rfl rfl (ex_if1 (fun hc => by exfalso; revert hc; decide) (fun _ => ?_)))
  refine (ex_6_0 (ex_0 (ix_46 (S' := [(.inl (-1))]) rfl (sh_208 hS) (c_tell_c hS (k := 1) (by decide) (by decide) (u2_q (by decide)) hR1) rfl rfl ?_)))
  exact ex_53 rfl
theorem m_road {d : Nat} {G : am_G} {I : Nat → Nat → Int} {P : Nat → Nat → Option Nat} (hS : ST G P) {b o : Nat} {len : Int} (hb : b < 6) (ho : o < 6) (hbo : ¬ b = o) (hl : 0 ≤ len ∧ len ≤ 9) (hr : 0 ≤ I 210 (52 + 6 * b + o)) : am_call am_B am_M (d + 4) 189 [(.inr (.inr (some 208))), (.inl (b : Int)), (.inl (o : Int)), (.inl len)] (G, I, P) = some (some (.inl (I 210 (52 + 6 * b + o))), (G, (am_u2 (am_u2 (am_u2 (am_u2 I 208 0 0) 210 (52 + 6 * b + o) len) 210 (52 + 6 * o + b) len) 208 1 0), P)) := by
  refine am_doL (L := [some (.inr (.inr (some 208))), some (.inl (b : Int)), some (.inl (o : Int)), some (.inl len), none]) (Nat.le_of_ble_eq_true rfl) rfl ?_
  refine (ex_6_0 (ex_0 (ix_42i (sh_208 hS) (ex_4_1 (ex_4_2 (ex_4_3 ?_))))))
  have hb8 : (((0 : Int) ≤ (b : Int) ∧ (b : Int) < 6) ∧ (0 ≤ (o : Int) ∧ (o : Int) < 6) ∧ ¬ (b : Int) = (o : Int) ∧ (0 ≤ len ∧ len ≤ 9)) := by omega
  refine (ix_45 (S' := [(.inl 1)]) rfl (c_isRoad_t hb8) rfl rfl (ex_if1 (fun _ => ?_) (fun hc => by exfalso; revert hc; decide)))
  refine (ex_6_0 (ex_4_1 (ex_4_2 (ix_46 (S' := [(.inl (I 210 (52 + 6 * b + o)))]) rfl (sh_208 hS) (c_roadOf hS (b := b) (o := o) (by omega) (by omega)) rfl rfl (ex_7_4 rfl (ex_6_0 (ex_4_1 (ex_4_2 (ex_4_3 (ix_46 (S' := []) rfl (sh_208 hS) (c_setRoad hS (b := b) (o := o) (by omega) (by omega)) rfl rfl (ex_6_0 (ex_4_4 (ix_46 (S' := [(.inl (I 210 (52 + 6 * b + o)))]) rfl (sh_208 hS) (c_tell_p hS (by omega)) rfl rfl ?_)))))))))))))
  exact ex_53 rfl
theorem m_terms_b {d : Nat} {G : am_G} {I : Nat → Nat → Int} {P : Nat → Nat → Option Nat} (hS : ST G P) {w v : Int} (hk : ¬ ((w = 0 ∧ 0 ≤ v ∧ v ≤ 999) ∨ (w = 1 ∧ 0 ≤ v ∧ v ≤ 10) ∨ (w = 2 ∧ 0 ≤ v ∧ v ≤ 9))) (hR1 : 0 ≤ I 209 1 ∧ I 209 1 ≤ 1000000) : am_call am_B am_M (d + 3) 191 [(.inr (.inr (some 208))), (.inl w), (.inl v)] (G, I, P) = some (some (.inl (-1)), (G, am_u2 (am_u2 (am_u2 I 208 0 0) 208 1 (-1)) 209 1 (I 209 1 + 1), P)) := by
  refine am_doL (L := [some (.inr (.inr (some 208))), some (.inl w), some (.inl v), none]) (Nat.le_of_ble_eq_true rfl) rfl ?_
  refine (ex_6_0 (ex_0 (ix_42i (sh_208 hS) (ex_4_1 ?_))))
  refine ex_if1 (fun hc6 => ?_) (fun hc6 => ?_)
  · refine (ex_4_1 (ex_0 ?_))
    refine ex_ic1 (fun hc23 => ?_) (fun hc23 => ?_)
    · refine (ex_4_1 (ex_0 ?_))
      refine ex_ic1 (fun hc40 => ?_) (fun hc40 => ?_)
      · refine (ex_0 (ex_58 (ex_7_3 rfl (ex_4_3 (ex_if1 (fun hc => by exfalso; revert hc; decide) (fun _ => ?_))))))
        refine (ex_6_0 (ex_0 (ix_46 (S' := [(.inl (-1))]) rfl (sh_208 hS) (c_tell_c hS (k := 1) (by decide) (by decide) (u2_q (by decide)) hR1) rfl rfl ?_)))
        exact ex_53 rfl
      · refine (ex_4_2 (ex_19 (ex_1 (ex_1 ?_))))
        have hb49 : ¬ (((0 : Int) ≤ v ∧ (v : Int) ≤ 9)) := by omega
        refine (ix_45 (S' := [(.inl 0)]) rfl (c_in_f hb49) rfl rfl (ex_if0 (fun _ => ?_) (fun hc => by exfalso; revert hc; decide)))
        refine (ex_0 (ex_58 (ex_7_3 rfl (ex_4_3 (ex_if1 (fun hc => by exfalso; revert hc; decide) (fun _ => ?_))))))
        refine (ex_6_0 (ex_0 (ix_46 (S' := [(.inl (-1))]) rfl (sh_208 hS) (c_tell_c hS (k := 1) (by decide) (by decide) (u2_q (by decide)) hR1) rfl rfl ?_)))
        exact ex_53 rfl
    · refine (ex_4_2 (ex_19 (ex_1 (ex_1 ?_))))
      have hb32 : ¬ (((0 : Int) ≤ v ∧ (v : Int) ≤ 10)) := by omega
      refine (ix_45 (S' := [(.inl 0)]) rfl (c_in_f hb32) rfl rfl (ex_28 (ex_7_3 rfl (ex_4_3 (ex_if1 (fun hc => by exfalso; revert hc; decide) (fun _ => ?_))))))
      refine (ex_6_0 (ex_0 (ix_46 (S' := [(.inl (-1))]) rfl (sh_208 hS) (c_tell_c hS (k := 1) (by decide) (by decide) (u2_q (by decide)) hR1) rfl rfl ?_)))
      exact ex_53 rfl
  · refine (ex_4_2 (ex_19 (ex_1 (ex_1 ?_))))
    have hb15 : ¬ (((0 : Int) ≤ v ∧ (v : Int) ≤ 999)) := by omega
    refine (ix_45 (S' := [(.inl 0)]) rfl (c_in_f hb15) rfl rfl (ex_28 (ex_7_3 rfl (ex_4_3 (ex_if1 (fun hc => by exfalso; revert hc; decide) (fun _ => ?_))))))
    refine (ex_6_0 (ex_0 (ix_46 (S' := [(.inl (-1))]) rfl (sh_208 hS) (c_tell_c hS (k := 1) (by decide) (by decide) (u2_q (by decide)) hR1) rfl rfl ?_)))
    exact ex_53 rfl
theorem m_terms_0 {d : Nat} {G : am_G} {I : Nat → Nat → Int} {P : Nat → Nat → Option Nat} (hS : ST G P) {v : Int} (hv : 0 ≤ v ∧ v ≤ 999) : am_call am_B am_M (d + 3) 191 [(.inr (.inr (some 208))), (.inl 0), (.inl v)] (G, I, P) = some (some (.inl (I 210 5)), (G, (am_u2 (am_u2 (am_u2 (am_u2 I 208 0 0) 208 8 0) 210 5 v) 208 1 0), P)) := by
  refine am_doL (L := [some (.inr (.inr (some 208))), some (.inl 0), some (.inl v), none]) (Nat.le_of_ble_eq_true rfl) rfl ?_
  refine (ex_6_0 (ex_0 (ix_42i (sh_208 hS) (ex_4_1 (ex_if1 (fun hc => by exfalso; revert hc; decide) (fun _ => ?_))))))
  refine (ex_4_2 (ex_19 (ex_1 (ex_1 ?_))))
  have hb15 : ((0 : Int) ≤ v ∧ (v : Int) ≤ 999) := by omega
  refine (ix_45 (S' := [(.inl 1)]) rfl (c_in_t hb15) rfl rfl (ex_28 (ex_7_3 rfl (ex_4_3 (ex_if1 (fun _ => ?_) (fun hc => by exfalso; revert hc; decide))))))
  refine (ex_6_0 (ex_0 (ix_42i (sh_208 hS) (ex_6_0 (ex_0 (ex_4_1 (ex_11e (v := 5) (by decide) (ex_4_2 (ix_46 (S' := [(.inl (I 210 5))]) rfl (sh_208 hS) (c_change_e hS (k := 5) (by omega) ((u2_q (by decide)).trans (u2_q (by decide)))) rfl rfl ?_)))))))))
  exact ex_53 rfl
theorem m_terms_1 {d : Nat} {G : am_G} {I : Nat → Nat → Int} {P : Nat → Nat → Option Nat} (hS : ST G P) {v : Int} (hv : 0 ≤ v ∧ v ≤ 10) : am_call am_B am_M (d + 3) 191 [(.inr (.inr (some 208))), (.inl 1), (.inl v)] (G, I, P) = some (some (.inl (I 210 6)), (G, (am_u2 (am_u2 (am_u2 (am_u2 I 208 0 0) 208 8 0) 210 6 v) 208 1 0), P)) := by
  refine am_doL (L := [some (.inr (.inr (some 208))), some (.inl 1), some (.inl v), none]) (Nat.le_of_ble_eq_true rfl) rfl ?_
  refine (ex_6_0 (ex_0 (ix_42i (sh_208 hS) (ex_4_1 (ex_if1 (fun _ => ?_) (fun hc => by exfalso; revert hc; decide))))))
  refine (ex_4_1 (ex_0 (ex_ic1 (fun hc => by exfalso; revert hc; decide) (fun _ => ?_))))
  refine (ex_4_2 (ex_19 (ex_1 (ex_1 ?_))))
  have hb32 : ((0 : Int) ≤ v ∧ (v : Int) ≤ 10) := by omega
  refine (ix_45 (S' := [(.inl 1)]) rfl (c_in_t hb32) rfl rfl (ex_28 (ex_7_3 rfl (ex_4_3 (ex_if1 (fun _ => ?_) (fun hc => by exfalso; revert hc; decide))))))
  refine (ex_6_0 (ex_0 (ix_42i (sh_208 hS) (ex_6_0 (ex_0 (ex_4_1 (ex_11e (v := 6) (by decide) (ex_4_2 (ix_46 (S' := [(.inl (I 210 6))]) rfl (sh_208 hS) (c_change_e hS (k := 6) (by omega) ((u2_q (by decide)).trans (u2_q (by decide)))) rfl rfl ?_)))))))))
  exact ex_53 rfl
theorem m_terms_2 {d : Nat} {G : am_G} {I : Nat → Nat → Int} {P : Nat → Nat → Option Nat} (hS : ST G P) {v : Int} (hv : 0 ≤ v ∧ v ≤ 9) : am_call am_B am_M (d + 3) 191 [(.inr (.inr (some 208))), (.inl 2), (.inl v)] (G, I, P) = some (some (.inl (I 210 7)), (G, (am_u2 (am_u2 (am_u2 (am_u2 I 208 0 0) 208 8 0) 210 7 v) 208 1 0), P)) := by
  refine am_doL (L := [some (.inr (.inr (some 208))), some (.inl 2), some (.inl v), none]) (Nat.le_of_ble_eq_true rfl) rfl ?_
  refine (ex_6_0 (ex_0 (ix_42i (sh_208 hS) (ex_4_1 (ex_if1 (fun _ => ?_) (fun hc => by exfalso; revert hc; decide))))))
  refine (ex_4_1 (ex_0 (ex_ic1 (fun _ => ?_) (fun hc => by exfalso; revert hc; decide))))
  refine (ex_4_1 (ex_0 (ex_ic1 (fun hc => by exfalso; revert hc; decide) (fun _ => ?_))))
  refine (ex_4_2 (ex_19 (ex_1 (ex_1 ?_))))
  have hb49 : ((0 : Int) ≤ v ∧ (v : Int) ≤ 9) := by omega
  refine (ix_45 (S' := [(.inl 1)]) rfl (c_in_t hb49) rfl rfl (ex_if0 (fun hc => by exfalso; revert hc; decide) (fun _ => ?_)))
  refine (ex_0 (ex_28 (ex_7_3 rfl (ex_4_3 (ex_if1 (fun _ => ?_) (fun hc => by exfalso; revert hc; decide))))))
  refine (ex_6_0 (ex_0 (ix_42i (sh_208 hS) (ex_6_0 (ex_0 (ex_4_1 (ex_11e (v := 7) (by decide) (ex_4_2 (ix_46 (S' := [(.inl (I 210 7))]) rfl (sh_208 hS) (c_change_e hS (k := 7) (by omega) ((u2_q (by decide)).trans (u2_q (by decide)))) rfl rfl ?_)))))))))
  exact ex_53 rfl
theorem m_wrong {d : Nat} {G : am_G} {I : Nat → Nat → Int} {P : Nat → Nat → Option Nat} (hS : ST G P) : am_call am_B am_M (d + 1) 193 [(.inr (.inr (some 208)))] (G, I, P) = some (some (.inl (I 208 11)), (G, (am_u2 I 208 0 0), P)) := by
  refine am_doL (L := [some (.inr (.inr (some 208)))]) (Nat.le_of_ble_eq_true rfl) rfl ?_
  refine (ex_6_0 (ex_0 (ix_42i (sh_208 hS) (ex_6_0 (ix_41i (sh_208 hS) (u2_k (by decide)) ?_)))))
  exact ex_53 rfl
theorem m_fault {d : Nat} {G : am_G} {I : Nat → Nat → Int} {P : Nat → Nat → Option Nat} (hS : ST G P) : am_call am_B am_M (d + 1) 205 [(.inr (.inr (some 208)))] (G, I, P) = some (some (.inl (I 208 18)), (G, (am_u2 I 208 0 0), P)) := by
  refine am_doL (L := [some (.inr (.inr (some 208)))]) (Nat.le_of_ble_eq_true rfl) rfl ?_
  refine (ex_6_0 (ex_0 (ix_42i (sh_208 hS) (ex_6_0 (ix_41i (sh_208 hS) (u2_k (by decide)) ?_)))))
  exact ex_53 rfl
theorem m_stopped {d : Nat} {G : am_G} {I : Nat → Nat → Int} {P : Nat → Nat → Option Nat} (hS : ST G P) : am_call am_B am_M (d + 1) 281 [(.inr (.inr (some 208)))] (G, I, P) = some (some (.inl (I 208 53)), (G, (am_u2 I 208 0 0), P)) := by
  refine am_doL (L := [some (.inr (.inr (some 208)))]) (Nat.le_of_ble_eq_true rfl) rfl ?_
  refine (ex_6_0 (ex_0 (ix_42i (sh_208 hS) (ex_6_0 (ix_41i (sh_208 hS) (u2_k (by decide)) ?_)))))
  exact ex_53 rfl
theorem m_status {d : Nat} {G : am_G} {I : Nat → Nat → Int} {P : Nat → Nat → Option Nat} (hS : ST G P) : am_call am_B am_M (d + 1) 286 [(.inr (.inr (some 208)))] (G, I, P) = some (some (.inl (I 208 1)), (G, (am_u2 I 208 0 0), P)) := by
  refine am_doL (L := [some (.inr (.inr (some 208)))]) (Nat.le_of_ble_eq_true rfl) rfl ?_
  refine (ex_6_0 (ex_0 (ix_42i (sh_208 hS) (ex_6_0 (ix_41i (sh_208 hS) (u2_k (by decide)) ?_)))))
  exact ex_53 rfl
theorem m_end_b {d : Nat} {G : am_G} {I : Nat → Nat → Int} {P : Nat → Nat → Option Nat} (hS : ST G P) {n : Int} (hn : ¬ (0 ≤ n ∧ n ≤ I 208 13)) : am_call am_B am_M (d + 1) 196 [(.inr (.inr (some 208))), (.inl n)] (G, I, P) = some (some (.inl (-1)), (G, (am_u2 I 208 0 0), P)) := by
  refine am_doL (L := [some (.inr (.inr (some 208))), some (.inl n)]) (Nat.le_of_ble_eq_true rfl) rfl ?_
  refine (ex_6_0 (ex_0 (ix_42i (sh_208 hS) (ex_4_1 ?_))))
  refine ex_if2 (fun hc6 => ?_) (fun hc6 => ?_)
  · refine (ex_0 ?_)
    exact ex_53 rfl
  · refine (ex_4_1 (ex_6_0 (ix_41i (sh_208 hS) (u2_k (by decide)) ?_)))
    refine ex_ic5 (fun hc14 => by exfalso; omega) (fun hc14 => ?_)
    refine (ex_0 ?_)
    exact ex_53 rfl
theorem m_end {d : Nat} {G : am_G} {I : Nat → Nat → Int} {P : Nat → Nat → Option Nat} (hS : ST G P) {n : Int} (hn : 0 ≤ n ∧ n ≤ I 208 13) : am_call am_B am_M (d + 1) 196 [(.inr (.inr (some 208))), (.inl n)] (G, I, P) = some (some (.inl n), (G, am_u2 (am_u2 I 208 0 0) 208 13 n, P)) := by
  refine am_doL (L := [some (.inr (.inr (some 208))), some (.inl n)]) (Nat.le_of_ble_eq_true rfl) rfl ?_
  refine (ex_6_0 (ex_0 (ix_42i (sh_208 hS) (ex_4_1 ?_))))
  refine ex_if2 (fun hc6 => by exfalso; omega) (fun hc6 => ?_)
  refine (ex_4_1 (ex_6_0 (ix_41i (sh_208 hS) (u2_k (by decide)) ?_)))
  refine ex_ic5 (fun hc14 => ?_) (fun hc14 => by exfalso; omega)
  refine (ex_6_0 (ex_4_1 (ix_42i (sh_208 hS) (ex_4_1 ?_))))
  exact ex_53 rfl
theorem m_heard_b {d : Nat} {G : am_G} {I : Nat → Nat → Int} {P : Nat → Nat → Option Nat} (hS : ST G P) {f t : Int} (ht : ¬ (0 ≤ t ∧ t ≤ 9)) (hR1 : 0 ≤ I 209 1 ∧ I 209 1 ≤ 1000000) : am_call am_B am_M (d + 3) 259 [(.inr (.inr (some 208))), (.inl f), (.inl t)] (G, I, P) = some (some (.inl (-1)), (G, am_u2 (am_u2 (am_u2 I 208 0 0) 208 1 (-1)) 209 1 (I 209 1 + 1), P)) := by
  refine am_doL (L := [some (.inr (.inr (some 208))), some (.inl f), some (.inl t), none]) (Nat.le_of_ble_eq_true rfl) rfl ?_
  refine (ex_6_0 (ex_0 (ix_42i (sh_208 hS) (ex_4_2 (ex_19 (ex_1 (ex_1 ?_)))))))
  have hb11 : ¬ (((0 : Int) ≤ t ∧ (t : Int) ≤ 9)) := by omega
  refine (ix_45 (S' := [(.inl 0)]) rfl (c_in_f hb11) rfl rfl (ex_if1 (fun hc => by exfalso; revert hc; decide) (fun _ => ?_)))
  refine (ex_6_0 (ex_0 (ix_46 (S' := [(.inl (-1))]) rfl (sh_208 hS) (c_tell_c hS (k := 1) (by decide) (by decide) (u2_q (by decide)) hR1) rfl rfl ?_)))
  exact ex_53 rfl
theorem m_heard_n {d : Nat} {G : am_G} {I : Nat → Nat → Int} {P : Nat → Nat → Option Nat} (hS : ST G P) {f t : Int} (ht : 0 ≤ t ∧ t ≤ 9) (h1 : 0 ≤ I 210 1 ∧ I 210 1 ≤ 5) (hf : ¬ (0 ≤ f ∧ f < I 210 1)) (hR2 : 0 ≤ I 209 2 ∧ I 209 2 ≤ 1000000) : am_call am_B am_M (d + 3) 259 [(.inr (.inr (some 208))), (.inl f), (.inl t)] (G, I, P) = some (some (.inl (-2)), (G, am_u2 (am_u2 (am_u2 I 208 0 0) 208 1 (-2)) 209 2 (I 209 2 + 1), P)) := by
  refine am_doL (L := [some (.inr (.inr (some 208))), some (.inl f), some (.inl t), none]) (Nat.le_of_ble_eq_true rfl) rfl ?_
  refine (ex_6_0 (ex_0 (ix_42i (sh_208 hS) (ex_4_2 (ex_19 (ex_1 (ex_1 ?_)))))))
  have hb11 : ((0 : Int) ≤ t ∧ (t : Int) ≤ 9) := by omega
  refine (ix_45 (S' := [(.inl 1)]) rfl (c_in_t hb11) rfl rfl (ex_if1 (fun _ => ?_) (fun hc => by exfalso; revert hc; decide)))
  refine (ex_6_0 (ex_4_1 ?_))
  have hb25 : ¬ (((0 : Int) ≤ f ∧ (f : Int) < (I 210 1))) := by omega
  refine (ix_46 (S' := [(.inl 0)]) rfl (sh_208 hS) (c_isFolk_F hS (u2_q (by decide)) (by omega) hb25) rfl rfl (ex_if1 (fun hc => by exfalso; revert hc; decide) (fun _ => ?_)))
  refine (ex_6_0 (ex_0 (ix_46 (S' := [(.inl (-2))]) rfl (sh_208 hS) (c_tell_c hS (k := 2) (by decide) (by decide) (u2_q (by decide)) hR2) rfl rfl ?_)))
  exact ex_53 rfl
theorem m_heard_r {d : Nat} {G : am_G} {I : Nat → Nat → Int} {P : Nat → Nat → Option Nat} (hS : ST G P) {f t : Int} (ht : 0 ≤ t ∧ t ≤ 9) (h1 : 0 ≤ I 210 1 ∧ I 210 1 ≤ 5) (hf : 0 ≤ f ∧ f < I 210 1) (h2 : I 210 2 = 6) (hR5 : 0 ≤ I 209 5 ∧ I 209 5 ≤ 1000000) : am_call am_B am_M (d + 3) 259 [(.inr (.inr (some 208))), (.inl f), (.inl t)] (G, I, P) = some (some (.inl (-5)), (G, am_u2 (am_u2 (am_u2 I 208 0 0) 208 1 (-5)) 209 5 (I 209 5 + 1), P)) := by
  refine am_doL (L := [some (.inr (.inr (some 208))), some (.inl f), some (.inl t), none]) (Nat.le_of_ble_eq_true rfl) rfl ?_
  refine (ex_6_0 (ex_0 (ix_42i (sh_208 hS) (ex_4_2 (ex_19 (ex_1 (ex_1 ?_)))))))
  have hb11 : ((0 : Int) ≤ t ∧ (t : Int) ≤ 9) := by omega
  refine (ix_45 (S' := [(.inl 1)]) rfl (c_in_t hb11) rfl rfl (ex_if1 (fun _ => ?_) (fun hc => by exfalso; revert hc; decide)))
  refine (ex_6_0 (ex_4_1 ?_))
  have hb25 : ((0 : Int) ≤ f ∧ (f : Int) < (I 210 1)) := by omega
  refine (ix_46 (S' := [(.inl 1)]) rfl (sh_208 hS) (c_isFolk_T hS (u2_q (by decide)) (by omega) hb25) rfl rfl (ex_if1 (fun _ => ?_) (fun hc => by exfalso; revert hc; decide)))
  refine (ex_6_0 (ix_41r (sh_208 hS) (pt_208_3 hS) (ex_0 (ix_30 (j := 2) (sh_210 hS) (by decide) (by decide) rfl ((u2_q (by decide)).trans h2) (ex_7_3 rfl (ex_4_3 (ex_0 (ex_ic1 (fun hc => by exfalso; revert hc; decide) (fun _ => ?_)))))))))
  refine (ex_6_0 (ex_0 (ix_46 (S' := [(.inl (-5))]) rfl (sh_208 hS) (c_tell_c hS (k := 5) (by decide) (by decide) (u2_q (by decide)) hR5) rfl rfl ?_)))
  exact ex_53 rfl
theorem m_heard {d : Nat} {G : am_G} {I : Nat → Nat → Int} {P : Nat → Nat → Option Nat} (hS : ST G P) {f t : Int} (ht : 0 ≤ t ∧ t ≤ 9) (h1 : 0 ≤ I 210 1 ∧ I 210 1 ≤ 5) (hf : 0 ≤ f ∧ f < I 210 1) {n : Nat} (h2 : I 210 2 = (n : Int)) (hn : n < 6) : am_call am_B am_M (d + 3) 259 [(.inr (.inr (some 208))), (.inl f), (.inl t)] (G, I, P) = some (some (.inl ((n : Int) + 1)), (G, (am_u2 (am_u2 (am_u2 (am_u2 (am_u2 I 208 0 0) 210 (88 + (2 * n)) f) 210 ((88 + (2 * n)) + 1) t) 210 2 ((n : Int) + 1)) 208 1 0), P)) := by
  refine am_doL (L := [some (.inr (.inr (some 208))), some (.inl f), some (.inl t), none]) (Nat.le_of_ble_eq_true rfl) rfl ?_
  refine (ex_6_0 (ex_0 (ix_42i (sh_208 hS) (ex_4_2 (ex_19 (ex_1 (ex_1 ?_)))))))
  have hb11 : ((0 : Int) ≤ t ∧ (t : Int) ≤ 9) := by omega
  refine (ix_45 (S' := [(.inl 1)]) rfl (c_in_t hb11) rfl rfl (ex_if1 (fun _ => ?_) (fun hc => by exfalso; revert hc; decide)))
  refine (ex_6_0 (ex_4_1 ?_))
  have hb25 : ((0 : Int) ≤ f ∧ (f : Int) < (I 210 1)) := by omega
  refine (ix_46 (S' := [(.inl 1)]) rfl (sh_208 hS) (c_isFolk_T hS (u2_q (by decide)) (by omega) hb25) rfl rfl (ex_if1 (fun _ => ?_) (fun hc => by exfalso; revert hc; decide)))
  refine (ex_6_0 (ix_41r (sh_208 hS) (pt_208_3 hS) (ex_0 (ix_30 (j := 2) (sh_210 hS) (by decide) (by decide) rfl ((u2_q (by decide)).trans h2) (ex_7_3 rfl (ex_4_3 (ex_0 ?_)))))))
  refine ex_ic1 (fun hc48 => ?_) (fun hc48 => by exfalso; omega)
  refine (ex_6_0 (ix_41r (sh_208 hS) (pt_208_3 hS) (ex_0 (ex_0 (ex_4_3 (ex_mul ⟨by omega, by omega⟩ (ex_add ⟨by omega, by omega⟩ (ex_4_1 (ix_34 (j := (88 + (2 * n))) (sh_210 hS) (by omega) (by omega) (by omega) (ex_6_0 (ix_41r (sh_208 hS) (pt_208_3 hS) (ex_0 (ex_0 (ex_4_3 (ex_mul ⟨by omega, by omega⟩ (ex_add ⟨by omega, by omega⟩ (ex_0 (ex_add ⟨by omega, by omega⟩ (ex_4_2 (ix_34 (j := ((88 + (2 * n)) + 1)) (sh_210 hS) (by omega) (by omega) (by omega) (ex_6_0 (ix_41r (sh_208 hS) (pt_208_3 hS) (ex_0 (ex_23 rfl (ix_30 (j := 2) (sh_210 hS) (by decide) (by decide) rfl ((u2_k (by omega)).trans ((u2_k (by omega)).trans ((u2_q (by decide)).trans h2))) (ex_0 (ex_add ⟨by omega, by omega⟩ (ix_34 (j := 2) (sh_210 hS) (by decide) (by decide) rfl (ex_6_0 (ex_4_3 (ex_0 (ex_add ⟨by omega, by omega⟩ (ix_46 (S' := [(.inl ((n : Int) + 1))]) rfl (sh_208 hS) (c_tell_p hS (by omega)) rfl rfl ?_)))))))))))))))))))))))))))))))))
  exact ex_53 rfl
theorem m_forget {d : Nat} {G : am_G} {I : Nat → Nat → Int} {P : Nat → Nat → Option Nat} (hS : ST G P) : am_call am_B am_M (d + 1) 260 [(.inr (.inr (some 208)))] (G, I, P) = some (some (.inl (I 210 2)), (G, am_u2 (am_u2 I 208 0 0) 210 2 0, P)) := by
  refine am_doL (L := [some (.inr (.inr (some 208))), none]) (Nat.le_of_ble_eq_true rfl) rfl ?_
  refine (ex_6_0 (ex_0 (ix_42i (sh_208 hS) (ex_6_0 (ix_41r (sh_208 hS) (pt_208_3 hS) (ex_0 (ix_30 (j := 2) (sh_210 hS) (by decide) (by decide) rfl (u2_q (by decide)) (ex_7_1 rfl (ex_6_0 (ix_41r (sh_208 hS) (pt_208_3 hS) (ex_0 (ex_0 (ix_34 (j := 2) (sh_210 hS) (by decide) (by decide) rfl (ex_4_1 ?_))))))))))))))
  exact ex_53 rfl
theorem c_isLaw_t {d : Nat} {G : am_G} {I : Nat → Nat → Int} {P : Nat → Nat → Option Nat} (hS : ST G P) {w : Int} (h3 : 0 ≤ I 210 3 ∧ I 210 3 ≤ 6) (hb : w = -1 ∨ (0 ≤ w ∧ w < I 210 3)) : am_call am_B am_M (d + 2) 225 [(.inr (.inr (some 208))), (.inl w)] (G, I, P) = some (some (.inl 1), (G, I, P)) := by
  refine am_doL (L := [some (.inr (.inr (some 208))), some (.inl w)]) (Nat.le_of_ble_eq_true rfl) rfl ?_
  refine (ex_4_1 (ex_0 ?_))
  refine ex_ic0 (fun hc2 => ?_) (fun hc2 => ?_)
  · refine (ex_0 (ex_28 ?_))
    exact ex_57 (by decide) rfl
  · refine (ex_4_1 (ex_19 (ex_1 (ex_6_0 (ix_41r (sh_208 hS) (pt_208_3 hS) (ex_0 (ix_30 (j := 3) (sh_210 hS) (by decide) (by decide) rfl rfl (ex_19 (ex_1 (ex_lsub ⟨by omega, by omega⟩ ?_))))))))))
    have hb17 : ((0 : Int) ≤ w ∧ (w : Int) ≤ ((I 210 3) - 1)) := by omega
    refine (ix_45 (S' := [(.inl 1)]) rfl (c_in_t hb17) rfl rfl (ex_if0 (fun hc => by exfalso; revert hc; decide) (fun _ => ?_)))
    refine (ex_0 (ex_28 ?_))
    exact ex_57 (by decide) rfl
theorem c_isLaw_f {d : Nat} {G : am_G} {I : Nat → Nat → Int} {P : Nat → Nat → Option Nat} (hS : ST G P) {w : Int} (h3 : 0 ≤ I 210 3 ∧ I 210 3 ≤ 6) (hb : ¬ (w = -1 ∨ (0 ≤ w ∧ w < I 210 3))) : am_call am_B am_M (d + 2) 225 [(.inr (.inr (some 208))), (.inl w)] (G, I, P) = some (some (.inl 0), (G, I, P)) := by
  refine am_doL (L := [some (.inr (.inr (some 208))), some (.inl w)]) (Nat.le_of_ble_eq_true rfl) rfl ?_
  refine (ex_4_1 (ex_0 ?_))
  refine ex_ic0 (fun hc2 => by exfalso; omega) (fun hc2 => ?_)
  refine (ex_4_1 (ex_19 (ex_1 (ex_6_0 (ix_41r (sh_208 hS) (pt_208_3 hS) (ex_0 (ix_30 (j := 3) (sh_210 hS) (by decide) (by decide) rfl rfl (ex_19 (ex_1 (ex_lsub ⟨by omega, by omega⟩ ?_))))))))))
  have hb17 : ¬ (((0 : Int) ≤ w ∧ (w : Int) ≤ ((I 210 3) - 1))) := by omega
  refine (ix_45 (S' := [(.inl 0)]) rfl (c_in_f hb17) rfl rfl (ex_if0 (fun _ => ?_) (fun hc => by exfalso; revert hc; decide)))
  refine (ex_0 (ex_58 ?_))
  exact ex_57 (by decide) rfl
