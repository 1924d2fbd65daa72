/-! ===== which cloud it can be ===== -/
/-- what one of the folk hears of a cloud; 10: it is barred from her -/
noncomputable def sdv (ρ : Nat → Int) (n : Nat) (cl : Nat → Cl) (c f : Nat) : Int := @ite Int (m_bar ρ n cl c f) (Classical.propDecidable _) 10 (m_told ρ n cl c f)
theorem sdv_t {ρ : Nat → Int} {n : Nat} {cl : Nat → Cl} {c f : Nat} (h : m_bar ρ n cl c f) : sdv ρ n cl c f = 10 := by unfold sdv; exact if_pos h
theorem sdv_f {ρ : Nat → Int} {n : Nat} {cl : Nat → Cl} {c f : Nat} (h : ¬ m_bar ρ n cl c f) : sdv ρ n cl c f = m_told ρ n cl c f := by unfold sdv; exact if_neg h
theorem sdv_b {ρ : Nat → Int} {n : Nat} {cl : Nat → Cl} {c f : Nat} : 0 ≤ sdv ρ n cl c f ∧ sdv ρ n cl c f ≤ 10 := by
  have := m_told_b (ρ := ρ) (n := n) (cl := cl) (c := c) (f := f)
  by_cases h : m_bar ρ n cl c f
  · rw [sdv_t h]; omega
  · rw [sdv_f h]; omega
noncomputable def cbk (ρ : Nat → Int) (n : Nat) (cl : Nat → Cl) (c k : Nat) : Bool := decide (sdv ρ n cl c (ρ (88 + 2 * k)).toNat = ρ (88 + 2 * k + 1))
noncomputable def fz (ρ : Nat → Int) (n : Nat) (cl : Nat → Cl) (c H : Nat) : Nat := fnd (fun k => ! cbk ρ n cl c k) H 0
def cst (b : Bool) (u : Int) : Int := if u = 1 ∧ b = true then 1 else 0
theorem cst_0 {p : Nat → Bool} : ∀ (k i : Nat), am_it (fun x u => cst (p x) u) k i 0 = 0
  | 0, _ => rfl
  | k + 1, i => cst_0 k (i + 1)
theorem cst_it {p : Nat → Bool} : ∀ (k i : Nat), am_it (fun x u => cst (p x) u) k i 1 = if fnd (fun x => ! p x) k i = i + k then 1 else 0
  | 0, i => by show (1 : Int) = _; rw [if_pos (show fnd (fun x => ! p x) 0 i = i + 0 from rfl)]
  | k + 1, i => by
    show am_it (fun x u => cst (p x) u) k (i + 1) (cst (p i) 1) = _
    by_cases q : p i = true
    · rw [show cst (p i) 1 = 1 by unfold cst; rw [if_pos ⟨rfl, q⟩], cst_it k (i + 1)]
      have f : fnd (fun x => ! p x) (k + 1) i = fnd (fun x => ! p x) k (i + 1) := by conv => lhs; unfold fnd; rw [if_neg (by rw [q]; decide)]
      rw [f, show i + 1 + k = i + (k + 1) by omega]
    · rw [show cst (p i) 1 = 0 by unfold cst; rw [if_neg (fun z => q z.2)], cst_0]
      have f : fnd (fun x => ! p x) (k + 1) i = i := by unfold fnd; rw [if_pos (by revert q; cases p i <;> decide)]
      rw [f, if_neg (by omega)]
noncomputable def cbs (ρ : Nat → Int) (n : Nat) (cl : Nat → Cl) (H c t : Nat) : Nat := if fz ρ n cl c H = H then t ||| 2 ^ c else t
noncomputable def cbt (ρ : Nat → Int) (n : Nat) (cl : Nat → Cl) (H N : Nat) : Nat := am_it (fun c t => cbs ρ n cl H c t) N 0 0
theorem cbs_lt {ρ : Nat → Int} {n : Nat} {cl : Nat → Cl} {H c t : Nat} (hc : c < 6) (ht : t < 64) : cbs ρ n cl H c t < 64 := by
  unfold cbs
  split
  · exact Nat.or_lt_two_pow (n := 6) ht (Nat.pow_lt_pow_right (by decide) hc)
  · exact ht
theorem cbt_lt {ρ : Nat → Int} {n : Nat} {cl : Nat → Cl} {H N : Nat} (hN : N ≤ 6) : cbt ρ n cl H N < 64 := am_it_inv (f := fun c t => cbs ρ n cl H c t) (inv := fun _ s => s < 64) (N := N) (fun i _ hi h => cbs_lt (by omega) h) N 0 0 (by omega) (by decide)
theorem k_said_t {d : Nat} {G : am_G} {I : Nat → Nat → Int} {P : Nat → Nat → Option Nat} (hS : ST G P) {c : Nat} (hCc : CQ c) {ρ : Nat → Int} {n : Nat} {cl : Nat → Cl} (hE : CE G I P c ρ n cl) {c1 f : Nat} (hc : c1 < 6) (hf1 : (f : Int) < ρ 1) (hBN : BarN n cl) (hb : m_bar ρ n cl c1 f) : ∃ I1, am_call am_B am_M (d + 5) 5 [(.inr (.inr (some 116))), (.inr (.inr (some c))), (.inl (c1 : Int)), (.inl (f : Int))] (G, I, P) = some (some (.inl (sdv ρ n cl c1 f)), (G, I1, P)) ∧ (LF I I1) := by
  have w : am_ex (am_call am_B am_M (d + 4)) (am_B 5) (am_B 5 0) [some (.inr (.inr (some 116))), some (.inr (.inr (some c))), some (.inl (c1 : Int)), some (.inl (f : Int))] [] (G, I, P) (fun o => ∃ I1, o = (some (.inl (sdv ρ n cl c1 f)), (G, I1, P)) ∧ (LF I I1)) := by
    refine (ex_6_0 (ix_41r (sh_116 hS) (pt_116_0 hS) (ex_6_1 (ex_4_2 (ex_4_3 ?_)))))
    obtain ⟨K, eK, fK⟩ := k_barred_t (d := d) hS hCc hE hc hf1 hBN hb
    refine (ix_46 (S' := [(.inl 1)]) rfl (sh_88 hS) eK rfl rfl (ex_if0 (fun hc => by exfalso; revert hc; decide) (fun _ => ?_)))
    refine (ex_0 (ex_28 ?_))
    exact ex_53 ⟨_, by rw [sdv_t hb], fK⟩
  obtain ⟨o, e, I1, rfl, h⟩ := am_doQ (as := [(.inr (.inr (some 116))), (.inr (.inr (some c))), (.inl (c1 : Int)), (.inl (f : Int))]) (Nat.le_of_ble_eq_true rfl) rfl w
  exact ⟨I1, e, h⟩
theorem k_said_f {d : Nat} {G : am_G} {I : Nat → Nat → Int} {P : Nat → Nat → Option Nat} (hS : ST G P) {c : Nat} (hCc : CQ c) {ρ : Nat → Int} {n : Nat} {cl : Nat → Cl} (hE : CE G I P c ρ n cl) {c1 f : Nat} (hc : c1 < 6) (hf1 : (f : Int) < ρ 1) (hBN : BarN n cl) (hb : ¬ m_bar ρ n cl c1 f) : ∃ I1, am_call am_B am_M (d + 5) 5 [(.inr (.inr (some 116))), (.inr (.inr (some c))), (.inl (c1 : Int)), (.inl (f : Int))] (G, I, P) = some (some (.inl (sdv ρ n cl c1 f)), (G, I1, P)) ∧ (LF I I1) := by
  have w : am_ex (am_call am_B am_M (d + 4)) (am_B 5) (am_B 5 0) [some (.inr (.inr (some 116))), some (.inr (.inr (some c))), some (.inl (c1 : Int)), some (.inl (f : Int))] [] (G, I, P) (fun o => ∃ I1, o = (some (.inl (sdv ρ n cl c1 f)), (G, I1, P)) ∧ (LF I I1)) := by
    refine (ex_6_0 (ix_41r (sh_116 hS) (pt_116_0 hS) (ex_6_1 (ex_4_2 (ex_4_3 ?_)))))
    obtain ⟨K, eK, fK⟩ := k_barred_f (d := d) hS hCc hE hc hf1 hBN hb
    refine (ix_46 (S' := [(.inl 0)]) rfl (sh_88 hS) eK rfl rfl (ex_if0 (fun _ => ?_) (fun hc => by exfalso; revert hc; decide)))
    refine (ex_6_0 (ix_41r (sh_116 hS) (pt_116_0 hS) (ex_6_1 (ex_4_2 (ex_4_3 ?_)))))
    obtain ⟨Q_, eQ, fQ⟩ := k_told (d := d) hS hCc (CE_LF hCc hE fK) hc hf1
    refine (ix_46 (S' := [(.inl (m_told ρ n cl c1 f))]) rfl (sh_88 hS) eQ rfl rfl (ex_58 ?_))
    exact ex_53 ⟨_, by rw [sdv_f hb], LF_trans fK fQ⟩
  obtain ⟨o, e, I1, rfl, h⟩ := am_doQ (as := [(.inr (.inr (some 116))), (.inr (.inr (some c))), (.inl (c1 : Int)), (.inl (f : Int))]) (Nat.le_of_ble_eq_true rfl) rfl w
  exact ⟨I1, e, h⟩
theorem k_said {d : Nat} {G : am_G} {I : Nat → Nat → Int} {P : Nat → Nat → Option Nat} (hS : ST G P) {c : Nat} (hCc : CQ c) {ρ : Nat → Int} {n : Nat} {cl : Nat → Cl} (hE : CE G I P c ρ n cl) {c1 f : Nat} (hc : c1 < 6) (hf1 : (f : Int) < ρ 1) (hBN : BarN n cl) : ∃ I1, am_call am_B am_M (d + 5) 5 [.inr (.inr (some 116)), .inr (.inr (some c)), .inl (c1 : Int), .inl (f : Int)] (G, I, P) = some (some (.inl (sdv ρ n cl c1 f)), (G, I1, P)) ∧ LF I I1 := by
  by_cases hb : m_bar ρ n cl c1 f
  · exact k_said_t hS hCc hE hc hf1 hBN hb
  · exact k_said_f hS hCc hE hc hf1 hBN hb
theorem k_cand {d : Nat} {G : am_G} {I : Nat → Nat → Int} {P : Nat → Nat → Option Nat} (hS : ST G P) {c : Nat} (hCc : CQ c) {ρ : Nat → Int} {n : Nat} {cl : Nat → Cl} (hE : CE G I P c ρ n cl) {N H : Nat} (hN : ρ 0 = (N : Int)) (hH : ρ 2 = (H : Int)) (hBN : BarN n cl) : ∃ I1, am_call am_B am_M (d + 6) 6 [(.inr (.inr (some 116))), (.inr (.inr (some c)))] (G, I, P) = some (some (.inl ((cbt ρ n cl H N : Nat) : Int)), (G, I1, P)) ∧ (CE G I1 P c ρ n cl ∧ LF I I1) := by
  have h06 := RW_n0 hE.2.1
  have h15 := RW_n1 hE.2.1
  have h26 := RW_n2 hE.2.1
  have hqc : c = 65 ∨ c = 93 ∨ c = 122 ∨ c = 139 ∨ c = 174 ∨ c = 191 := hCc
  have w : am_ex (am_call am_B am_M (d + 5)) (am_B 6) (am_B 6 0) [some (.inr (.inr (some 116))), some (.inr (.inr (some c))), none, none, none, none] [] (G, I, P) (fun o => ∃ I1, o = (some (.inl ((cbt ρ n cl H N : Nat) : Int)), (G, I1, P)) ∧ (CE G I1 P c ρ n cl ∧ LF I I1)) := by
    refine (ex_0 (ex_7_2 rfl (ex_0 (ex_7_3 rfl (ex_58 ?_)))))
    refine ex_forR (b := 1) (σ := Nat) (N) (fun i s => cbs ρ n cl H i s) (fun i s J => CE G J P c ρ n cl ∧ LF I J ∧ s < 64) (fun i s e_i => [some (.inr (.inr (some 116))), some (.inr (.inr (some c))), some (.inl ((s : Nat) : Int)), some (.inl (i : Int)), (e_i 4), (e_i 5)]) ?_ (N) (0) (0) (fun k_ => ([some (.inr (.inr (some 116))), some (.inr (.inr (some c))), some (.inl 0), some (.inl 0), none, none] : am_L).getD k_ none) (I) (by omega) (⟨hE, LF_refl, by decide⟩) rfl ?_
    · intro i s e_i J hii hvi hki
      obtain ⟨hEi, hfi, hsi_⟩ := hvi
      refine (ex_4_3 (ex_6_1 (ix_41i (v := (N : Int)) (cs_0 hS hCc) ((CC_n0 hEi.1).trans hN) ?_)))
      refine ex_ic3 (fun hc9 => by exfalso; omega) (fun hc9 => ?_)
      refine (ex_0 (ex_7_4 rfl (ex_0 (ex_7_5 rfl (ex_58 ?_)))))
      refine ex_forR (b := 3) (σ := Int) (H) (fun x u => cst (cbk ρ n cl i x) u) (fun x u J => CE G J P c ρ n cl ∧ LF I J ∧ (u = 0 ∨ u = 1)) (fun x u e_x => [some (.inr (.inr (some 116))), some (.inr (.inr (some c))), some (.inl ((s : Nat) : Int)), some (.inl (i : Int)), some (.inl u), some (.inl (x : Int))]) ?_ (H) (0) (1) (fun k_ => ([some (.inr (.inr (some 116))), some (.inr (.inr (some c))), some (.inl ((s : Nat) : Int)), some (.inl (i : Int)), some (.inl 1), some (.inl 0)] : am_L).getD k_ none) (J) (by omega) (⟨hEi, hfi, Or.inr rfl⟩) rfl ?_
      · intro x u e_x J hix hvx hkx
        obtain ⟨hEx, hfx, hux⟩ := hvx
        have hhe := RW_he hE.2.1 x (by omega)
        have hhf := RW_hf hE.2.1 x (by omega)
        refine (ex_4_5 (ex_6_1 (ix_41i (v := (H : Int)) (cs_0 hS hCc) ((CC_n2 hEx.1).trans hH) ?_)))
        refine ex_ic3 (fun hc24 => by exfalso; omega) (fun hc24 => ?_)
        refine (ex_4_4 ?_)
        refine ex_if0 (fun hc29 => ?_) (fun hc29 => ?_)
        · refine (ex_0 (ex_58 (ex_7_4 rfl (ex_10_5 ⟨by omega, by omega⟩ rfl (ex_28 ?_)))))
          exact hkx (0) (fun k_ => ([some (.inr (.inr (some 116))), some (.inr (.inr (some c))), some (.inl ((s : Nat) : Int)), some (.inl (i : Int)), some (.inl 0), some (.inl ((x : Int) + 1))] : am_L).getD k_ none) _ ((by show (0 : Int) = cst (cbk ρ n cl i x) u; unfold cst; first | (rw [if_neg (fun z => absurd z.1 (by omega))]; done) | (rw [if_neg (fun z => hc52 (of_decide_eq_true z.2))]; done) | (rw [if_pos ⟨by omega, decide_eq_true hc52⟩]; done))) (⟨CE_LF hCc hEx LF_refl, LF_trans hfx LF_refl, by omega⟩)
        · refine (ex_6_0 (ex_6_1 (ex_4_3 (ex_6_1 (ix_41r (cs_0 hS hCc) (cp_0_11 hS hCc) (ex_4_5 (ix_30 (j := x) (v := ((ρ (88 + 2 * x)).toNat : Int)) (cs_13 hS hCc) (by omega) (by omega) (by omega) ((CC_h1 hEx.1 x (by omega)).trans (Int.toNat_of_nonneg hhe.1.1).symm) ?_)))))))
          obtain ⟨Q_, eQ, fQ⟩ := k_said (d := d) hS hCc hEx (c1 := i) (f := (ρ (88 + 2 * x)).toNat) (by omega) (by omega) hBN
          refine (ix_46 (S' := [(.inl (sdv ρ n cl i (ρ (88 + 2 * x)).toNat))]) rfl (sh_116 hS) eQ rfl rfl (ex_6_1 (ix_41r (cs_0 hS hCc) (cp_0_12 hS hCc) (ex_4_5 (ix_30 (j := x) (v := (ρ (88 + 2 * x + 1))) (cs_14 hS hCc) (by omega) (by omega) (by omega) (((fQ _ _ (by omega) (by omega))).trans (CC_h2 hEx.1 x (by omega))) ?_)))))
          refine ex_ic1 (fun hc52 => ?_) (fun hc52 => ?_)
          · refine (ex_0 (ex_58 (ex_7_4 rfl (ex_10_5 ⟨by omega, by omega⟩ rfl (ex_28 ?_)))))
            exact hkx (0) (fun k_ => ([some (.inr (.inr (some 116))), some (.inr (.inr (some c))), some (.inl ((s : Nat) : Int)), some (.inl (i : Int)), some (.inl 0), some (.inl ((x : Int) + 1))] : am_L).getD k_ none) _ ((by show (0 : Int) = cst (cbk ρ n cl i x) u; unfold cst; first | (rw [if_neg (fun z => absurd z.1 (by omega))]; done) | (rw [if_neg (fun z => hc52 (of_decide_eq_true z.2))]; done) | (rw [if_pos ⟨by omega, decide_eq_true hc52⟩]; done))) (⟨CE_LF hCc hEx fQ, LF_trans hfx fQ, by omega⟩)
          · refine (ex_0 (ex_28 (ex_7_4 rfl (ex_10_5 ⟨by omega, by omega⟩ rfl (ex_28 ?_)))))
            exact hkx (1) (fun k_ => ([some (.inr (.inr (some 116))), some (.inr (.inr (some c))), some (.inl ((s : Nat) : Int)), some (.inl (i : Int)), some (.inl 1), some (.inl ((x : Int) + 1))] : am_L).getD k_ none) _ ((by show (1 : Int) = cst (cbk ρ n cl i x) u; unfold cst; first | (rw [if_neg (fun z => absurd z.1 (by omega))]; done) | (rw [if_neg (fun z => hc52 (of_decide_eq_true z.2))]; done) | (rw [if_pos ⟨by omega, decide_eq_true hc52⟩]; done))) (⟨CE_LF hCc hEx fQ, LF_trans hfx fQ, by omega⟩)
      · intro u e_x J hsx hvx
        obtain ⟨hEx, hfx, hux⟩ := hvx
        rw [cst_it, Nat.zero_add] at hsx
        refine (ex_4_5 (ex_6_1 (ix_41i (v := (H : Int)) (cs_0 hS hCc) ((CC_n2 hEx.1).trans hH) ?_)))
        refine ex_ic3 (fun hc24 => ?_) (fun hc24 => by exfalso; omega)
        refine (ex_4_2 (ex_4_4 ?_))
        refine ex_if0 (fun hc71 => ?_) (fun hc71 => ?_)
        · refine (ex_0 (ex_58 (ex_11e (am_or (a := s) (b := 0) (Nat.lt_trans hsi_ (by decide)) (by decide)) (ex_7_2 rfl (ex_10_3 ⟨by omega, by omega⟩ rfl (ex_28 ?_))))))
          exact hki ((s ||| 0)) (fun k_ => ([some (.inr (.inr (some 116))), some (.inr (.inr (some c))), some (.inl (((s ||| 0) : Nat) : Int)), some (.inl ((i : Int) + 1)), some (.inl u), some (.inl ((H) : Int))] : am_L).getD k_ none) _ ((by show (s ||| 0) = cbs ρ n cl H i s; unfold cbs; first | (rw [if_neg (fun z => by have z2 : fnd (fun k => ! cbk ρ n cl i k) H 0 = H := z; rw [if_pos z2] at hsx; omega)]; exact Nat.or_zero _) | (rw [if_pos (Classical.byContradiction fun z => by have z2 : ¬ fnd (fun k => ! cbk ρ n cl i k) H 0 = H := z; rw [if_neg z2] at hsx; omega)]))) (⟨hEx, hfx, by first | exact Nat.or_lt_two_pow (n := 6) hsi_ (Nat.pow_lt_pow_right (by decide) (by omega)) | (rw [Nat.or_zero]; exact hsi_)⟩)
        · refine (ex_0 (ex_4_3 (ex_11e (am_shl1 (k := i) (by omega)) (ex_28 (ex_11e (am_or (a := s) (b := (2 ^ i)) (Nat.lt_trans hsi_ (by decide)) (Nat.pow_lt_pow_right (by decide) (by omega))) (ex_7_2 rfl (ex_10_3 ⟨by omega, by omega⟩ rfl (ex_28 ?_))))))))
          exact hki ((s ||| (2 ^ i))) (fun k_ => ([some (.inr (.inr (some 116))), some (.inr (.inr (some c))), some (.inl (((s ||| (2 ^ i)) : Nat) : Int)), some (.inl ((i : Int) + 1)), some (.inl u), some (.inl ((H) : Int))] : am_L).getD k_ none) _ ((by show (s ||| (2 ^ i)) = cbs ρ n cl H i s; unfold cbs; first | (rw [if_neg (fun z => by have z2 : fnd (fun k => ! cbk ρ n cl i k) H 0 = H := z; rw [if_pos z2] at hsx; omega)]; exact Nat.or_zero _) | (rw [if_pos (Classical.byContradiction fun z => by have z2 : ¬ fnd (fun k => ! cbk ρ n cl i k) H 0 = H := z; rw [if_neg z2] at hsx; omega)]))) (⟨hEx, hfx, by first | exact Nat.or_lt_two_pow (n := 6) hsi_ (Nat.pow_lt_pow_right (by decide) (by omega)) | (rw [Nat.or_zero]; exact hsi_)⟩)
    · intro s e_i J hsi hvi
      obtain ⟨hEi, hfi, hsi_⟩ := hvi
      refine (ex_4_3 (ex_6_1 (ix_41i (v := (N : Int)) (cs_0 hS hCc) ((CC_n0 hEi.1).trans hN) ?_)))
      refine ex_ic3 (fun hc9 => ?_) (fun hc9 => by exfalso; omega)
      refine (ex_4_2 ?_)
      exact ex_53 ⟨_, by rw [hsi]; rfl, hEi, hfi⟩
  obtain ⟨o, e, I1, rfl, h⟩ := am_doQ (as := [(.inr (.inr (some 116))), (.inr (.inr (some c)))]) (Nat.le_of_ble_eq_true rfl) rfl w
  exact ⟨I1, e, h⟩
theorem c_thatCan {d : Nat} {G : am_G} {I : Nat → Nat → Int} {P : Nat → Nat → Option Nat} (hS : ST G P) {ρ : Nat → Int} {n : Nat} {cl : Nat → Cl} (hM : ME I ρ n cl) {N H : Nat} (hN : ρ 0 = (N : Int)) (hH : ρ 2 = (H : Int)) : ∃ I1, am_call am_B am_M (d + 8) 261 [(.inr (.inr (some 208)))] (G, I, P) = some (some (.inl ((cbt ρ n cl H N : Nat) : Int)), (G, I1, P)) ∧ (ME I1 ρ n cl ∧ TF I I1) := by
  have h06 := RW_n0 hM.2.1
  have h15 := RW_n1 hM.2.1
  have h26 := RW_n2 hM.2.1
  have w : am_ex (am_call am_B am_M (d + 7)) (am_B 261) (am_B 261 0) [some (.inr (.inr (some 208))), none, none, none, none, none] [] (G, I, P) (fun o => ∃ I1, o = (some (.inl ((cbt ρ n cl H N : Nat) : Int)), (G, I1, P)) ∧ (ME I1 ρ n cl ∧ TF I I1)) := by
    refine (ex_0 (ex_7_1 rfl (ex_0 (ex_7_2 rfl (ex_58 ?_)))))
    refine ex_forR (b := 1) (σ := Nat) (N) (fun i s => cbs ρ n cl H i s) (fun i s J => ME J ρ n cl ∧ TF I J ∧ s < 64) (fun i s e_i => [some (.inr (.inr (some 208))), some (.inl ((s : Nat) : Int)), some (.inl (i : Int)), (e_i 3), (e_i 4), (e_i 5)]) ?_ (N) (0) (0) (fun k_ => ([some (.inr (.inr (some 208))), some (.inl 0), some (.inl 0), none, none, none] : am_L).getD k_ none) (I) (by omega) (⟨hM, TF_refl, by decide⟩) rfl ?_
    · intro i s e_i J hii hvi hki
      obtain ⟨hEi, hfi, hsi_⟩ := hvi
      refine (ex_4_2 (ex_6_0 (ix_41r (sh_208 hS) (pt_208_3 hS) (ex_0 (ix_30 (j := 0) (v := (N : Int)) (sh_210 hS) (by decide) (by decide) rfl ((congrFun hEi.1 _).trans hN) ?_)))))
      refine ex_ic3 (fun hc11 => by exfalso; omega) (fun hc11 => ?_)
      refine (ex_0 (ex_7_3 rfl (ex_0 (ex_7_4 rfl (ex_58 ?_)))))
      refine ex_whR (b := 3) (fun x => ! cbk ρ n cl i x) (H) ((fz ρ n cl i H)) (fun x J => ME J ρ n cl ∧ TF I J) (fun x e_x => [some (.inr (.inr (some 208))), some (.inl ((s : Nat) : Int)), some (.inl (i : Int)), some (.inl 1), some (.inl (x : Int)), (e_x 5)]) ?_ ?_ (H) (0) (fun k_ => ([some (.inr (.inr (some 208))), some (.inl ((s : Nat) : Int)), some (.inl (i : Int)), some (.inl 1), some (.inl 0), (e_i 5)] : am_L).getD k_ none) (J) (by omega) (rfl) (⟨hEi, hfi⟩) rfl
      · intro x e_x J hix hpx hvx hkx
        obtain ⟨hEx, hfx⟩ := hvx
        have hhe := RW_he hM.2.1 x (by omega)
        have hhf := RW_hf hM.2.1 x (by omega)
        have hcb : sdv ρ n cl i (ρ (88 + 2 * x)).toNat = ρ (88 + 2 * x + 1) := of_decide_eq_true (show cbk ρ n cl i x = true by revert hpx; cases cbk ρ n cl i x <;> decide)
        have hb : ¬ m_bar ρ n cl i (ρ (88 + 2 * x)).toNat := fun z => by rw [sdv_t z] at hcb; omega
        rw [sdv_f hb] at hcb
        refine (ex_4_4 (ex_6_0 (ix_41r (sh_208 hS) (pt_208_3 hS) (ex_0 (ix_30 (j := 2) (v := (H : Int)) (sh_210 hS) (by decide) (by decide) rfl ((congrFun hEx.1 _).trans hH) ?_)))))
        refine ex_ic3 (fun hc27 => by exfalso; omega) (fun hc27 => ?_)
        refine (ex_4_3 (ex_if0 (fun hc => by exfalso; revert hc; decide) (fun _ => ?_)))
        refine (ex_6_0 (ix_41r (sh_208 hS) (pt_208_3 hS) (ex_0 (ex_0 (ex_4_4 (ex_mul ⟨by omega, by omega⟩ (ex_add ⟨by omega, by omega⟩ (ix_30 (j := (88 + (2 * x))) (v := ((ρ (88 + 2 * x)).toNat : Int)) (sh_210 hS) (by omega) (by omega) (by omega) ((congrFun hEx.1 _).trans (Int.toNat_of_nonneg hhe.1.1).symm) (ex_7_5 rfl (ex_6_0 (ex_4_2 (ex_4_5 ?_))))))))))))
        obtain ⟨K, eK, fK⟩ := c_isBarred_f (d := d) hS hEx (c := i) (f := (ρ (88 + 2 * x)).toNat) (by omega) (by omega) hb
        refine (ix_46 (S' := [(.inl 0)]) rfl (sh_208 hS) eK rfl rfl (ex_if1 (fun hc => by exfalso; revert hc; decide) (fun _ => ?_)))
        refine (ex_6_0 (ex_4_2 (ex_4_5 ?_)))
        obtain ⟨Q_, eQ, fQ⟩ := c_toldBy (d := d) hS (ME_TF hEx fK) (c := i) (f := (ρ (88 + 2 * x)).toNat) (by omega) (by omega)
        refine (ix_46 (S' := [(.inl (m_told ρ n cl i (ρ (88 + 2 * x)).toNat))]) rfl (sh_208 hS) eQ rfl rfl (ex_6_0 (ix_41r (sh_208 hS) (pt_208_3 hS) (ex_0 (ex_0 (ex_4_4 (ex_mul ⟨by omega, by omega⟩ (ex_add ⟨by omega, by omega⟩ (ex_0 (ex_add ⟨by omega, by omega⟩ (ix_30 (j := ((88 + (2 * x)) + 1)) (v := (ρ (88 + 2 * x + 1))) (sh_210 hS) (by omega) (by omega) (by omega) (((fQ _ _ (by decide) (by decide) (by omega))).trans (((fK _ _ (by decide) (by decide) (by omega))).trans (congrFun hEx.1 _))) ?_)))))))))))
        refine ex_ic1 (fun hc79 => by exact absurd hcb hc79) (fun hc79 => ?_)
        refine (ex_0 (ex_28 (ex_7_3 rfl (ex_10_4 ⟨by omega, by omega⟩ rfl (ex_28 ?_)))))
        exact hkx (fun k_ => ([some (.inr (.inr (some 208))), some (.inl ((s : Nat) : Int)), some (.inl (i : Int)), some (.inl 1), some (.inl ((x : Int) + 1)), some (.inl ((ρ (88 + 2 * x)).toNat : Int))] : am_L).getD k_ none) _ (⟨ME_TF hEx (TF_trans fK fQ), TF_trans hfx (TF_trans fK fQ)⟩)
      · intro e_x J hzx hpx hvx
        obtain ⟨hEx, hfx⟩ := hvx
        refine (ex_4_4 (ex_6_0 (ix_41r (sh_208 hS) (pt_208_3 hS) (ex_0 (ix_30 (j := 2) (v := (H : Int)) (sh_210 hS) (by decide) (by decide) rfl ((congrFun hEx.1 _).trans hH) ?_)))))
        refine ex_ic3 (fun hc27 => ?_) (fun hc27 => ?_)
        · refine (ex_4_1 (ex_4_3 (ex_if0 (fun hc => by exfalso; revert hc; decide) (fun _ => ?_))))
          refine (ex_0 (ex_4_2 (ex_11e (am_shl1 (k := i) (by omega)) (ex_28 (ex_11e (am_or (a := s) (b := (2 ^ i)) (Nat.lt_trans hsi_ (by decide)) (Nat.pow_lt_pow_right (by decide) (by omega))) (ex_7_1 rfl (ex_10_2 ⟨by omega, by omega⟩ rfl (ex_28 ?_))))))))
          exact hki ((s ||| (2 ^ i))) (fun k_ => ([some (.inr (.inr (some 208))), some (.inl (((s ||| (2 ^ i)) : Nat) : Int)), some (.inl ((i : Int) + 1)), some (.inl 1), some (.inl ((fz ρ n cl i H) : Int)), (e_x 5)] : am_L).getD k_ none) _ ((by show (s ||| (2 ^ i)) = cbs ρ n cl H i s; unfold cbs; first | (rw [if_neg (show ¬ (fz ρ n cl i H) = H by omega)]; exact Nat.or_zero _) | (rw [if_pos (show (fz ρ n cl i H) = H by omega)]))) (⟨ME_TF hEx TF_refl, TF_trans hfx TF_refl, by first | exact Nat.or_lt_two_pow (n := 6) hsi_ (Nat.pow_lt_pow_right (by decide) (by omega)) | (rw [Nat.or_zero]; exact hsi_)⟩)
        · refine (ex_4_3 (ex_if0 (fun hc => by exfalso; revert hc; decide) (fun _ => ?_)))
          have hlt : (fz ρ n cl i H) < H := by omega
          have hhe := RW_he hM.2.1 (fz ρ n cl i H) (by omega)
          have hhf := RW_hf hM.2.1 (fz ρ n cl i H) (by omega)
          have hcb : ¬ sdv ρ n cl i (ρ (88 + 2 * (fz ρ n cl i H))).toNat = ρ (88 + 2 * (fz ρ n cl i H) + 1) := fun z => by have h9 := hpx hlt; rw [show cbk ρ n cl i (fz ρ n cl i H) = true from decide_eq_true z] at h9; exact absurd h9 (by decide)
          by_cases hb : m_bar ρ n cl i (ρ (88 + 2 * (fz ρ n cl i H))).toNat
          · refine (ex_6_0 (ix_41r (sh_208 hS) (pt_208_3 hS) (ex_0 (ex_0 (ex_4_4 (ex_mul ⟨by omega, by omega⟩ (ex_add ⟨by omega, by omega⟩ (ix_30 (j := (88 + (2 * (fz ρ n cl i H)))) (v := ((ρ (88 + 2 * (fz ρ n cl i H))).toNat : Int)) (sh_210 hS) (by omega) (by omega) (by omega) ((congrFun hEx.1 _).trans (Int.toNat_of_nonneg hhe.1.1).symm) (ex_7_5 rfl (ex_6_0 (ex_4_2 (ex_4_5 ?_))))))))))))
            obtain ⟨K, eK, fK⟩ := c_isBarred_t (d := d) hS hEx (c := i) (f := (ρ (88 + 2 * (fz ρ n cl i H))).toNat) (by omega) (by omega) hb
            refine (ix_46 (S' := [(.inl 1)]) rfl (sh_208 hS) eK rfl rfl (ex_if1 (fun _ => ?_) (fun hc => by exfalso; revert hc; decide)))
            refine (ex_0 (ex_58 (ex_7_3 rfl (ex_10_4 ⟨by omega, by omega⟩ rfl (ex_28 (ex_4_4 (ex_6_0 (ix_41r (sh_208 hS) (pt_208_3 hS) (ex_0 (ix_30 (j := 2) (v := (H : Int)) (sh_210 hS) (by decide) (by decide) rfl (((fK _ _ (by decide) (by decide) (by omega))).trans ((congrFun hEx.1 _).trans hH)) ?_))))))))))
            refine ex_ic3 (fun hc27 => ?_) (fun hc27 => ?_)
            · refine (ex_4_1 (ex_4_3 (ex_if0 (fun _ => ?_) (fun hc => by exfalso; revert hc; decide))))
              refine (ex_0 (ex_58 (ex_11e (am_or (a := s) (b := 0) (Nat.lt_trans hsi_ (by decide)) (by decide)) (ex_7_1 rfl (ex_10_2 ⟨by omega, by omega⟩ rfl (ex_28 ?_))))))
              exact hki ((s ||| 0)) (fun k_ => ([some (.inr (.inr (some 208))), some (.inl (((s ||| 0) : Nat) : Int)), some (.inl ((i : Int) + 1)), some (.inl 0), some (.inl (((fz ρ n cl i H) : Int) + 1)), some (.inl ((ρ (88 + 2 * (fz ρ n cl i H))).toNat : Int))] : am_L).getD k_ none) _ ((by show (s ||| 0) = cbs ρ n cl H i s; unfold cbs; first | (rw [if_neg (show ¬ (fz ρ n cl i H) = H by omega)]; exact Nat.or_zero _) | (rw [if_pos (show (fz ρ n cl i H) = H by omega)]))) (⟨ME_TF hEx fK, TF_trans hfx fK, by first | exact Nat.or_lt_two_pow (n := 6) hsi_ (Nat.pow_lt_pow_right (by decide) (by omega)) | (rw [Nat.or_zero]; exact hsi_)⟩)
            · refine (ex_4_3 (ex_if0 (fun _ => ?_) (fun hc => by exfalso; revert hc; decide)))
              refine (ex_4_1 (ex_4_3 (ex_if0 (fun _ => ?_) (fun hc => by exfalso; revert hc; decide))))
              refine (ex_0 (ex_58 (ex_11e (am_or (a := s) (b := 0) (Nat.lt_trans hsi_ (by decide)) (by decide)) (ex_7_1 rfl (ex_10_2 ⟨by omega, by omega⟩ rfl (ex_28 ?_))))))
              exact hki ((s ||| 0)) (fun k_ => ([some (.inr (.inr (some 208))), some (.inl (((s ||| 0) : Nat) : Int)), some (.inl ((i : Int) + 1)), some (.inl 0), some (.inl (((fz ρ n cl i H) : Int) + 1)), some (.inl ((ρ (88 + 2 * (fz ρ n cl i H))).toNat : Int))] : am_L).getD k_ none) _ ((by show (s ||| 0) = cbs ρ n cl H i s; unfold cbs; first | (rw [if_neg (show ¬ (fz ρ n cl i H) = H by omega)]; exact Nat.or_zero _) | (rw [if_pos (show (fz ρ n cl i H) = H by omega)]))) (⟨ME_TF hEx fK, TF_trans hfx fK, by first | exact Nat.or_lt_two_pow (n := 6) hsi_ (Nat.pow_lt_pow_right (by decide) (by omega)) | (rw [Nat.or_zero]; exact hsi_)⟩)
          · rw [sdv_f hb] at hcb
            refine (ex_6_0 (ix_41r (sh_208 hS) (pt_208_3 hS) (ex_0 (ex_0 (ex_4_4 (ex_mul ⟨by omega, by omega⟩ (ex_add ⟨by omega, by omega⟩ (ix_30 (j := (88 + (2 * (fz ρ n cl i H)))) (v := ((ρ (88 + 2 * (fz ρ n cl i H))).toNat : Int)) (sh_210 hS) (by omega) (by omega) (by omega) ((congrFun hEx.1 _).trans (Int.toNat_of_nonneg hhe.1.1).symm) (ex_7_5 rfl (ex_6_0 (ex_4_2 (ex_4_5 ?_))))))))))))
            obtain ⟨K, eK, fK⟩ := c_isBarred_f (d := d) hS hEx (c := i) (f := (ρ (88 + 2 * (fz ρ n cl i H))).toNat) (by omega) (by omega) hb
            refine (ix_46 (S' := [(.inl 0)]) rfl (sh_208 hS) eK rfl rfl (ex_if1 (fun hc => by exfalso; revert hc; decide) (fun _ => ?_)))
            refine (ex_6_0 (ex_4_2 (ex_4_5 ?_)))
            obtain ⟨Q_, eQ, fQ⟩ := c_toldBy (d := d) hS (ME_TF hEx fK) (c := i) (f := (ρ (88 + 2 * (fz ρ n cl i H))).toNat) (by omega) (by omega)
            refine (ix_46 (S' := [(.inl (m_told ρ n cl i (ρ (88 + 2 * (fz ρ n cl i H))).toNat))]) rfl (sh_208 hS) eQ rfl rfl (ex_6_0 (ix_41r (sh_208 hS) (pt_208_3 hS) (ex_0 (ex_0 (ex_4_4 (ex_mul ⟨by omega, by omega⟩ (ex_add ⟨by omega, by omega⟩ (ex_0 (ex_add ⟨by omega, by omega⟩ (ix_30 (j := ((88 + (2 * (fz ρ n cl i H))) + 1)) (v := (ρ (88 + 2 * (fz ρ n cl i H) + 1))) (sh_210 hS) (by omega) (by omega) (by omega) (((fQ _ _ (by decide) (by decide) (by omega))).trans (((fK _ _ (by decide) (by decide) (by omega))).trans (congrFun hEx.1 _))) ?_)))))))))))
            refine ex_ic1 (fun hc79 => ?_) (fun hc79 => by exact absurd hc79 hcb)
            refine (ex_0 (ex_58 (ex_7_3 rfl (ex_10_4 ⟨by omega, by omega⟩ rfl (ex_28 (ex_4_4 (ex_6_0 (ix_41r (sh_208 hS) (pt_208_3 hS) (ex_0 (ix_30 (j := 2) (v := (H : Int)) (sh_210 hS) (by decide) (by decide) rfl (((fQ _ _ (by decide) (by decide) (by omega))).trans (((fK _ _ (by decide) (by decide) (by omega))).trans ((congrFun hEx.1 _).trans hH))) ?_))))))))))
            refine ex_ic3 (fun hc27 => ?_) (fun hc27 => ?_)
            · refine (ex_4_1 (ex_4_3 (ex_if0 (fun _ => ?_) (fun hc => by exfalso; revert hc; decide))))
              refine (ex_0 (ex_58 (ex_11e (am_or (a := s) (b := 0) (Nat.lt_trans hsi_ (by decide)) (by decide)) (ex_7_1 rfl (ex_10_2 ⟨by omega, by omega⟩ rfl (ex_28 ?_))))))
              exact hki ((s ||| 0)) (fun k_ => ([some (.inr (.inr (some 208))), some (.inl (((s ||| 0) : Nat) : Int)), some (.inl ((i : Int) + 1)), some (.inl 0), some (.inl (((fz ρ n cl i H) : Int) + 1)), some (.inl ((ρ (88 + 2 * (fz ρ n cl i H))).toNat : Int))] : am_L).getD k_ none) _ ((by show (s ||| 0) = cbs ρ n cl H i s; unfold cbs; first | (rw [if_neg (show ¬ (fz ρ n cl i H) = H by omega)]; exact Nat.or_zero _) | (rw [if_pos (show (fz ρ n cl i H) = H by omega)]))) (⟨ME_TF hEx (TF_trans fK fQ), TF_trans hfx (TF_trans fK fQ), by first | exact Nat.or_lt_two_pow (n := 6) hsi_ (Nat.pow_lt_pow_right (by decide) (by omega)) | (rw [Nat.or_zero]; exact hsi_)⟩)
            · refine (ex_4_3 (ex_if0 (fun _ => ?_) (fun hc => by exfalso; revert hc; decide)))
              refine (ex_4_1 (ex_4_3 (ex_if0 (fun _ => ?_) (fun hc => by exfalso; revert hc; decide))))
              refine (ex_0 (ex_58 (ex_11e (am_or (a := s) (b := 0) (Nat.lt_trans hsi_ (by decide)) (by decide)) (ex_7_1 rfl (ex_10_2 ⟨by omega, by omega⟩ rfl (ex_28 ?_))))))
              exact hki ((s ||| 0)) (fun k_ => ([some (.inr (.inr (some 208))), some (.inl (((s ||| 0) : Nat) : Int)), some (.inl ((i : Int) + 1)), some (.inl 0), some (.inl (((fz ρ n cl i H) : Int) + 1)), some (.inl ((ρ (88 + 2 * (fz ρ n cl i H))).toNat : Int))] : am_L).getD k_ none) _ ((by show (s ||| 0) = cbs ρ n cl H i s; unfold cbs; first | (rw [if_neg (show ¬ (fz ρ n cl i H) = H by omega)]; exact Nat.or_zero _) | (rw [if_pos (show (fz ρ n cl i H) = H by omega)]))) (⟨ME_TF hEx (TF_trans fK fQ), TF_trans hfx (TF_trans fK fQ), by first | exact Nat.or_lt_two_pow (n := 6) hsi_ (Nat.pow_lt_pow_right (by decide) (by omega)) | (rw [Nat.or_zero]; exact hsi_)⟩)
    · intro s e_i J hsi hvi
      obtain ⟨hEi, hfi, hsi_⟩ := hvi
      refine (ex_4_2 (ex_6_0 (ix_41r (sh_208 hS) (pt_208_3 hS) (ex_0 (ix_30 (j := 0) (v := (N : Int)) (sh_210 hS) (by decide) (by decide) rfl ((congrFun hEi.1 _).trans hN) ?_)))))
      refine ex_ic3 (fun hc11 => ?_) (fun hc11 => by exfalso; omega)
      refine (ex_4_1 ?_)
      exact ex_53 ⟨_, by rw [hsi]; rfl, hEi, hfi⟩
  obtain ⟨o, e, I1, rfl, h⟩ := am_doQ (as := [(.inr (.inr (some 208)))]) (Nat.le_of_ble_eq_true rfl) rfl w
  exact ⟨I1, e, h⟩
/-- the places where sums are worked out, and what is thrown -/
def TFt (I J : Nat → Nat → Int) : Prop := ∀ q k, ¬ q = 228 → ¬ q = 226 → ¬ (q = 208 ∧ (k = 0 ∨ k = 34 ∨ k = 38 ∨ k = 39 ∨ k = 40)) → J q k = I q k
theorem TFt_th {I J : Nat → Nat → Int} (h : TF (am_u2 I 208 0 0) J) : TFt I J := fun q k a b c => (h q k a b (by omega)).trans (u2_o (by omega))
theorem m_canBe {d : Nat} {G : am_G} {I : Nat → Nat → Int} {P : Nat → Nat → Option Nat} (hS : ST G P) {ρ : Nat → Int} {n : Nat} {cl : Nat → Cl} (hM : ME I ρ n cl) {N H : Nat} (hN : ρ 0 = (N : Int)) (hH : ρ 2 = (H : Int)) : ∃ I1, am_call am_B am_M (d + 9) 262 [(.inr (.inr (some 208)))] (G, I, P) = some (some (.inl ((cbt ρ n cl H N : Nat) : Int)), (G, I1, P)) ∧ (ME I1 ρ n cl ∧ TFt I I1) := by
  have h06 := RW_n0 hM.2.1
  have h15 := RW_n1 hM.2.1
  have h26 := RW_n2 hM.2.1
  have hM0 : ME (am_u2 I 208 0 0) ρ n cl := ⟨(u2_qf (by decide)).trans hM.1, hM.2.1, hM.2.2.1, (u2_k (by decide)).trans hM.2.2.2⟩
  have w : am_ex (am_call am_B am_M (d + 8)) (am_B 262) (am_B 262 0) [some (.inr (.inr (some 208)))] [] (G, I, P) (fun o => ∃ I1, o = (some (.inl ((cbt ρ n cl H N : Nat) : Int)), (G, I1, P)) ∧ (ME I1 ρ n cl ∧ TFt I I1)) := by
    refine (ex_6_0 (ex_0 (ix_42i (sh_208 hS) (ex_6_0 ?_))))
    obtain ⟨JC, eC, hEC, hfC⟩ := c_thatCan (d := d) hS hM0 hN hH
    refine (ix_46 (S' := [(.inl ((cbt ρ n cl H N : Nat) : Int))]) rfl (sh_208 hS) eC rfl rfl ?_)
    exact ex_53 ⟨_, rfl, hEC, TFt_th hfC⟩
  obtain ⟨o, e, I1, rfl, h⟩ := am_doQ (as := [(.inr (.inr (some 208)))]) (Nat.le_of_ble_eq_true rfl) rfl w
  exact ⟨I1, e, h⟩
