/-! ===== the class: roads ===== -/
theorem nr_or {ρ ρ' : Nat → Int} {c x : Nat} {l : Int} (hx : x < 6) (hl : 0 < l) (h : ∀ j, j < 6 → ρ' (52 + 6 * c + j) = if j = x then l else ρ (52 + 6 * c + j)) : nr ρ c ||| 2 ^ x = nr ρ' c := by
  apply Nat.eq_of_testBit_eq
  intro j
  rw [Bool.eq_iff_iff, nr_tb, Nat.testBit_or, Nat.testBit_two_pow, Bool.or_eq_true, nr_tb, decide_eq_true_eq]
  constructor
  · rintro (z | z)
    · refine ⟨z.1, ?_⟩
      rw [h j z.1]; split
      · exact hl
      · exact z.2
    · subst z; exact ⟨hx, by rw [h x hx, if_pos rfl]; exact hl⟩
  · intro z
    by_cases e : x = j
    · exact Or.inr e
    · have := z.2
      rw [h j z.1, if_neg (fun q => e q.symm)] at this
      exact Or.inl ⟨z.1, this⟩
theorem nr_cl {ρ ρ' : Nat → Int} {c x : Nat} (h : ∀ j, j < 6 → ρ' (52 + 6 * c + j) = if j = x then 0 else ρ (52 + 6 * c + j)) : nr ρ c &&& (nr ρ c ^^^ 2 ^ x) = nr ρ' c := by
  apply Nat.eq_of_testBit_eq
  intro j
  rw [Bool.eq_iff_iff, nr_tb, Nat.testBit_and, Nat.testBit_xor, Nat.testBit_two_pow, Bool.and_eq_true]
  constructor
  · rintro ⟨z1, z2⟩
    rw [z1] at z2
    have z3 := nr_tb.mp z1
    refine ⟨z3.1, ?_⟩
    by_cases e : x = j
    · rw [decide_eq_true e] at z2; exact absurd z2 (by decide)
    · rw [h j z3.1, if_neg (fun q => e q.symm)]; exact z3.2
  · intro z
    have z2 := z.2
    rw [h j z.1] at z2
    split at z2
    · omega
    · rename_i e
      have t : (nr ρ c).testBit j = true := nr_tb.mpr ⟨z.1, z2⟩
      rw [t, decide_eq_false (fun q => e q.symm)]
      exact ⟨rfl, rfl⟩
theorem nr_eq {ρ ρ' : Nat → Int} {c : Nat} (h : ∀ j, j < 6 → ρ' (52 + 6 * c + j) = ρ (52 + 6 * c + j)) : nr ρ' c = nr ρ c := by
  apply Nat.eq_of_testBit_eq
  intro j
  rw [Bool.eq_iff_iff, nr_tb, nr_tb]
  constructor
  · intro z; exact ⟨z.1, by rw [← h j z.1]; exact z.2⟩
  · intro z; exact ⟨z.1, by rw [h j z.1]; exact z.2⟩
theorem m_road1_at {ρ : Nat → Int} {b o : Nat} {l : Int} (j : Nat) : m_road1 ρ b o l j = if j = 52 + 6 * o + b then l else if j = 52 + 6 * b + o then l else ρ j := rfl
theorem CC_road {I J : Nat → Nat → Int} {ρ ρ' : Nat → Int} (h : CC I 65 ρ) (hf : ∀ q k, ¬ q = 67 → ¬ q = 68 → J q k = I q k) (hρ : ∀ j, j < 52 ∨ 88 ≤ j → ρ' j = ρ j) (h67 : ∀ j, j < 36 → J 67 j = ρ' (52 + j)) (h68 : ∀ b, b < 6 → J 68 b = ((nr ρ' b : Nat) : Int)) : CC J 65 ρ' :=
  ⟨(hf _ _ (by decide) (by decide)).trans ((CC_n0 h).trans (hρ _ (by omega)).symm), (hf _ _ (by decide) (by decide)).trans ((CC_n1 h).trans (hρ _ (by omega)).symm), (hf _ _ (by decide) (by decide)).trans ((CC_n2 h).trans (hρ _ (by omega)).symm), (hf _ _ (by decide) (by decide)).trans ((CC_n3 h).trans (hρ _ (by omega)).symm), (hf _ _ (by decide) (by decide)).trans ((CC_fo h).trans (hρ _ (by omega)).symm), (hf _ _ (by decide) (by decide)).trans ((CC_sm h).trans (hρ _ (by omega)).symm),
   fun j hj => (hf _ _ (by decide) (by decide)).trans ((CC_ki h j hj).trans (hρ _ (by omega)).symm), fun j hj => (hf _ _ (by decide) (by decide)).trans ((CC_ra h j hj).trans (hρ _ (by omega)).symm), fun j hj => (hf _ _ (by decide) (by decide)).trans ((CC_at h j hj).trans (hρ _ (by omega)).symm), fun j hj => (hf _ _ (by decide) (by decide)).trans ((CC_by h j hj).trans (hρ _ (by omega)).symm), fun j hj => (hf _ _ (by decide) (by decide)).trans ((CC_ea h j hj).trans (hρ _ (by omega)).symm), fun j hj => (hf _ _ (by decide) (by decide)).trans ((CC_en h j hj).trans (hρ _ (by omega)).symm), fun j hj => (hf _ _ (by decide) (by decide)).trans ((CC_we h j hj).trans (hρ _ (by omega)).symm), fun j hj => (hf _ _ (by decide) (by decide)).trans ((CC_kn h j hj).trans (hρ _ (by omega)).symm), fun j hj => (hf _ _ (by decide) (by decide)).trans ((CC_te h j hj).trans (hρ _ (by omega)).symm), h67, h68,
   fun j hj => (hf _ _ (by decide) (by decide)).trans ((CC_h1 h j hj).trans (hρ _ (by omega)).symm), fun j hj => (hf _ _ (by decide) (by decide)).trans ((CC_h2 h j hj).trans (hρ _ (by omega)).symm)⟩
theorem CC_lay {I : Nat → Nat → Int} {ρ : Nat → Int} {b o : Nat} {l x y : Int} (h : CC I 65 ρ) (hb : b < 6) (ho : o < 6) (hbo : ¬ b = o) (hx : x = ((nr (m_road1 ρ b o l) b : Nat) : Int)) (hy : y = ((nr (m_road1 ρ b o l) o : Nat) : Int)) : CC (am_u2 (am_u2 (am_u2 (am_u2 I 67 (b * 6 + o) l) 67 (o * 6 + b) l) 68 b x) 68 o y) 65 (m_road1 ρ b o l) := by
  refine CC_road h (fun q k h1 h2 => by rw [u2_q h2, u2_q h2, u2_q h1, u2_q h1]) (fun j hj => by rw [m_road1_at, if_neg (by omega), if_neg (by omega)]) (fun j hj => ?_) (fun c hc => ?_)
  · rw [u2_q (by decide), u2_q (by decide), u2_at, u2_at, m_road1_at]
    by_cases e1 : j = o * 6 + b
    · rw [if_pos e1, if_pos (by omega)]
    · rw [if_neg e1, if_neg (show ¬ 52 + j = 52 + 6 * o + b by omega)]
      by_cases e2 : j = b * 6 + o
      · rw [if_pos e2, if_pos (show 52 + j = 52 + 6 * b + o by omega)]
      · rw [if_neg e2, if_neg (show ¬ 52 + j = 52 + 6 * b + o by omega)]; exact CC_ro h j hj
  · rw [u2_at, u2_at, u2_q (by decide), u2_q (by decide)]
    by_cases e1 : c = o
    · rw [if_pos e1, e1]; exact hy
    · rw [if_neg e1]
      by_cases e2 : c = b
      · rw [if_pos e2, e2]; exact hx
      · rw [if_neg e2, nr_eq (fun j hj => by rw [m_road1_at, if_neg (by omega), if_neg (by omega)])]; exact CC_nr h c hc
theorem k_lay_0 {d : Nat} {G : am_G} {I : Nat → Nat → Int} {P : Nat → Nat → Option Nat} (hS : ST G P) {ρ : Nat → Int} (hcc : CC I 65 ρ) {b oo : Nat} (hb : b < 6) (ho : oo < 6) (hbo : ¬ b = oo) : ∃ I1, am_call am_B am_M (d + 1) 76 [(.inr (.inr (some 66))), (.inl (b : Int)), (.inl (oo : Int)), (.inl 0)] (G, I, P) = some (none, (G, I1, P)) ∧ (CC I1 65 (m_road1 ρ b oo 0) ∧ (∀ q k, ¬ q = 67 → ¬ q = 68 → I1 q k = I q k)) := by
  have w : am_ex (am_call am_B am_M (d + 0)) (am_B 76) (am_B 76 0) [some (.inr (.inr (some 66))), some (.inl (b : Int)), some (.inl (oo : Int)), some (.inl 0)] [] (G, I, P) (fun o => ∃ I1, o = (none, (G, I1, P)) ∧ (CC I1 65 (m_road1 ρ b oo 0) ∧ (∀ q k, ¬ q = 67 → ¬ q = 68 → I1 q k = I q k))) := by
    refine (ex_6_0 (ix_41r (sh_66 hS) (pt_66_0 hS) (ex_4_1 (ex_0 (ex_mul ⟨by omega, by omega⟩ (ex_4_2 (ex_add ⟨by omega, by omega⟩ (ex_4_3 (ix_34 (j := ((b * 6) + oo)) (sh_67 hS) (by omega) (by omega) (by omega) (ex_6_0 (ix_41r (sh_66 hS) (pt_66_0 hS) (ex_4_2 (ex_0 (ex_mul ⟨by omega, by omega⟩ (ex_4_1 (ex_add ⟨by omega, by omega⟩ (ex_4_3 (ix_34 (j := ((oo * 6) + b)) (sh_67 hS) (by omega) (by omega) (by omega) (ex_4_3 (ex_if1 (fun hc => by exfalso; revert hc; decide) (fun _ => ?_)))))))))))))))))))))
    refine (ex_6_0 (ix_41r (sh_66 hS) (pt_66_1 hS) (ex_4_1 (ex_23 rfl (ix_30 (j := b) (v := ((nr ρ b : Nat) : Int)) (sh_68 hS) (by omega) (by omega) (by omega) ((u2_q (by decide)).trans ((u2_q (by decide)).trans (CC_nr hcc b hb))) (ex_0 (ex_4_2 (ex_11e (am_shl1 (k := oo) (by omega)) (ex_0 (ex_11e (am_not (a := (2 ^ oo)) (Nat.pow_lt_pow_right (by decide) (by omega))) (ex_11e (am_andn (a := (nr ρ b)) (b := (2 ^ oo)) (Nat.lt_trans nr_lt (by decide)) (Nat.pow_lt_pow_right (by decide) (by omega))) (ix_34 (j := b) (sh_68 hS) (by omega) (by omega) (by omega) (ex_6_0 (ix_41r (sh_66 hS) (pt_66_1 hS) (ex_4_2 (ex_23 rfl (ix_30 (j := oo) (v := ((nr ρ oo : Nat) : Int)) (sh_68 hS) (by omega) (by omega) (by omega) ((u2_k (by omega)).trans ((u2_q (by decide)).trans ((u2_q (by decide)).trans (CC_nr hcc oo ho)))) (ex_0 (ex_4_1 (ex_11e (am_shl1 (k := b) (by omega)) (ex_0 (ex_11e (am_not (a := (2 ^ b)) (Nat.pow_lt_pow_right (by decide) (by omega))) (ex_11e (am_andn (a := (nr ρ oo)) (b := (2 ^ b)) (Nat.lt_trans nr_lt (by decide)) (Nat.pow_lt_pow_right (by decide) (by omega))) (ix_34 (j := oo) (sh_68 hS) (by omega) (by omega) (by omega) (ex_28 ?_)))))))))))))))))))))))))
    exact ex_56 ⟨_, rfl, CC_lay hcc hb ho hbo (congrArg (fun x : Nat => (x : Int)) (nr_cl (fun j hj => by rw [m_road1_at]; by_cases e : j = oo; (rw [if_neg (by omega), if_pos (by omega), if_pos e]); (rw [if_neg (by omega), if_neg (by omega), if_neg e])))) (congrArg (fun x : Nat => (x : Int)) (nr_cl (fun j hj => by rw [m_road1_at]; by_cases e : j = b; (rw [if_pos (by omega), if_pos e]); (rw [if_neg (by omega), if_neg (by omega), if_neg e])))), fun q k h1 h2 => (u2_q h2).trans ((u2_q h2).trans ((u2_q h1).trans (u2_q h1)))⟩
  obtain ⟨o, e, I1, rfl, h⟩ := am_doQ (as := [(.inr (.inr (some 66))), (.inl (b : Int)), (.inl (oo : Int)), (.inl 0)]) (Nat.le_of_ble_eq_true rfl) rfl w
  exact ⟨I1, e, h⟩
theorem k_lay_s {d : Nat} {G : am_G} {I : Nat → Nat → Int} {P : Nat → Nat → Option Nat} (hS : ST G P) {ρ : Nat → Int} (hcc : CC I 65 ρ) {b oo : Nat} (hb : b < 6) (ho : oo < 6) (hbo : ¬ b = oo) {l : Int} (hl : 0 < l) : ∃ I1, am_call am_B am_M (d + 1) 76 [(.inr (.inr (some 66))), (.inl (b : Int)), (.inl (oo : Int)), (.inl l)] (G, I, P) = some (none, (G, I1, P)) ∧ (CC I1 65 (m_road1 ρ b oo l) ∧ (∀ q k, ¬ q = 67 → ¬ q = 68 → I1 q k = I q k)) := by
  have w : am_ex (am_call am_B am_M (d + 0)) (am_B 76) (am_B 76 0) [some (.inr (.inr (some 66))), some (.inl (b : Int)), some (.inl (oo : Int)), some (.inl l)] [] (G, I, P) (fun o => ∃ I1, o = (none, (G, I1, P)) ∧ (CC I1 65 (m_road1 ρ b oo l) ∧ (∀ q k, ¬ q = 67 → ¬ q = 68 → I1 q k = I q k))) := by
    refine (ex_6_0 (ix_41r (sh_66 hS) (pt_66_0 hS) (ex_4_1 (ex_0 (ex_mul ⟨by omega, by omega⟩ (ex_4_2 (ex_add ⟨by omega, by omega⟩ (ex_4_3 (ix_34 (j := ((b * 6) + oo)) (sh_67 hS) (by omega) (by omega) (by omega) (ex_6_0 (ix_41r (sh_66 hS) (pt_66_0 hS) (ex_4_2 (ex_0 (ex_mul ⟨by omega, by omega⟩ (ex_4_1 (ex_add ⟨by omega, by omega⟩ (ex_4_3 (ix_34 (j := ((oo * 6) + b)) (sh_67 hS) (by omega) (by omega) (by omega) (ex_4_3 ?_)))))))))))))))))))
    refine ex_if1 (fun hc25 => ?_) (fun hc25 => by exfalso; omega)
    refine (ex_6_0 (ix_41r (sh_66 hS) (pt_66_1 hS) (ex_4_1 (ex_23 rfl (ix_30 (j := b) (v := ((nr ρ b : Nat) : Int)) (sh_68 hS) (by omega) (by omega) (by omega) ((u2_q (by decide)).trans ((u2_q (by decide)).trans (CC_nr hcc b hb))) (ex_0 (ex_4_2 (ex_11e (am_shl1 (k := oo) (by omega)) (ex_11e (am_or (a := (nr ρ b)) (b := (2 ^ oo)) (Nat.lt_trans nr_lt (by decide)) (Nat.pow_lt_pow_right (by decide) (by omega))) (ix_34 (j := b) (sh_68 hS) (by omega) (by omega) (by omega) (ex_6_0 (ix_41r (sh_66 hS) (pt_66_1 hS) (ex_4_2 (ex_23 rfl (ix_30 (j := oo) (v := ((nr ρ oo : Nat) : Int)) (sh_68 hS) (by omega) (by omega) (by omega) ((u2_k (by omega)).trans ((u2_q (by decide)).trans ((u2_q (by decide)).trans (CC_nr hcc oo ho)))) (ex_0 (ex_4_1 (ex_11e (am_shl1 (k := b) (by omega)) (ex_11e (am_or (a := (nr ρ oo)) (b := (2 ^ b)) (Nat.lt_trans nr_lt (by decide)) (Nat.pow_lt_pow_right (by decide) (by omega))) (ix_34 (j := oo) (sh_68 hS) (by omega) (by omega) (by omega) (ex_58 ?_)))))))))))))))))))))
    exact ex_56 ⟨_, rfl, CC_lay hcc hb ho hbo (congrArg (fun x : Nat => (x : Int)) (nr_or ho hl (fun j hj => by rw [m_road1_at]; by_cases e : j = oo; (rw [if_neg (by omega), if_pos (by omega), if_pos e]); (rw [if_neg (by omega), if_neg (by omega), if_neg e])))) (congrArg (fun x : Nat => (x : Int)) (nr_or hb hl (fun j hj => by rw [m_road1_at]; by_cases e : j = b; (rw [if_pos (by omega), if_pos e]); (rw [if_neg (by omega), if_neg (by omega), if_neg e])))), fun q k h1 h2 => (u2_q h2).trans ((u2_q h2).trans ((u2_q h1).trans (u2_q h1)))⟩
  obtain ⟨o, e, I1, rfl, h⟩ := am_doQ (as := [(.inr (.inr (some 66))), (.inl (b : Int)), (.inl (oo : Int)), (.inl l)]) (Nat.le_of_ble_eq_true rfl) rfl w
  exact ⟨I1, e, h⟩
theorem k_lay {d : Nat} {G : am_G} {I : Nat → Nat → Int} {P : Nat → Nat → Option Nat} (hS : ST G P) {ρ : Nat → Int} (hcc : CC I 65 ρ) {b oo : Nat} (hb : b < 6) (ho : oo < 6) (hbo : ¬ b = oo) {l : Int} (hl : 0 ≤ l) : ∃ I1, am_call am_B am_M (d + 1) 76 [.inr (.inr (some 66)), .inl (b : Int), .inl (oo : Int), .inl l] (G, I, P) = some (none, (G, I1, P)) ∧ (CC I1 65 (m_road1 ρ b oo l) ∧ (∀ q k, ¬ q = 67 → ¬ q = 68 → I1 q k = I q k)) := by
  by_cases h : l = 0
  · subst h; exact k_lay_0 hS hcc hb ho hbo
  · exact k_lay_s hS hcc hb ho hbo (by omega)
