/-! ===== the reference: who should answer whom ===== -/
/-- all but where answers are worked out -/
def AFm (I J : Nat → Nat → Int) : Prop := ∀ q k, ¬ q = 228 → ¬ q = 226 → ¬ q = 231 → ¬ q = 232 → ¬ (q = 208 ∧ (k = 34 ∨ k = 38 ∨ k = 39 ∨ k = 40)) → J q k = I q k
theorem AFm_refl {I : Nat → Nat → Int} : AFm I I := fun _ _ _ _ _ _ _ => rfl
theorem AFm_trans {I J K : Nat → Nat → Int} (h : AFm I J) (h2 : AFm J K) : AFm I K := fun q k a b c d e => (h2 q k a b c d e).trans (h q k a b c d e)
theorem ME_AFm {I J : Nat → Nat → Int} {ρ : Nat → Int} {n : Nat} {cl : Nat → Cl} (h : ME I ρ n cl) (hf : AFm I J) : ME J ρ n cl := ⟨(funext fun k => hf 210 k (by decide) (by decide) (by decide) (by decide) (by omega)).trans h.1, h.2.1, h.2.2.1, (hf _ _ (by decide) (by decide) (by decide) (by decide) (by decide)).trans h.2.2.2⟩
theorem c_layTold {d : Nat} {G : am_G} {I : Nat → Nat → Int} {P : Nat → Nat → Option Nat} (hS : ST G P) {ρ : Nat → Int} {n : Nat} {cl : Nat → Cl} (hM : ME I ρ n cl) {N : Nat} (hN : ρ 0 = (N : Int)) : ∃ I1, am_call am_B am_M (d + 9) 254 [(.inr (.inr (some 208)))] (G, I, P) = some (none, (G, I1, P)) ∧ (ME I1 ρ n cl ∧ (∀ a f, a < N → f < 5 → I1 232 (6 * a + f) = gn ρ n cl a f) ∧ AFm I I1) := by
  have h06 := RW_n0 hM.2.1
  have h15 := RW_n1 hM.2.1
  have w : am_ex (am_call am_B am_M (d + 8)) (am_B 254) (am_B 254 0) [some (.inr (.inr (some 208))), none, none, none] [] (G, I, P) (fun o => ∃ I1, o = (none, (G, I1, P)) ∧ (ME I1 ρ n cl ∧ (∀ a f, a < N → f < 5 → I1 232 (6 * a + f) = gn ρ n cl a f) ∧ AFm I I1)) := by
    refine (ex_0 (ex_7_1 rfl (ex_58 ?_)))
    refine ex_forR (b := 1) (σ := Unit) (N) (fun i s => s) (fun i s J => ME J ρ n cl ∧ (∀ a f, a < i → f < 5 → J 232 (6 * a + f) = gn ρ n cl a f) ∧ AFm I J) (fun i s e_i => [some (.inr (.inr (some 208))), some (.inl (i : Int)), (e_i 2), (e_i 3)]) ?_ (N) (0) (()) (fun k_ => ([some (.inr (.inr (some 208))), some (.inl 0), none, none] : am_L).getD k_ none) (I) (by omega) (⟨hM, fun a f ha => absurd ha (by omega), AFm_refl⟩) rfl ?_
    · intro i s e_i J hii hvi hki
      obtain ⟨hEi, hgi, hfi⟩ := hvi
      have hi6 : i < 6 := by omega
      refine (ex_4_1 (ex_6_0 (ix_41r (sh_208 hS) (pt_208_3 hS) (ex_0 (ix_30 (j := 0) (v := (N : Int)) (sh_210 hS) (by decide) (by decide) rfl ((congrFun hEi.1 _).trans hN) ?_)))))
      refine ex_ic3 (fun hc9 => by exfalso; omega) (fun hc9 => ?_)
      refine (ex_0 (ex_7_2 rfl (ex_58 ?_)))
      refine ex_forR (b := 3) (σ := Unit) (5) (fun x s => s) (fun x s J => ME J ρ n cl ∧ (∀ a f, a < i → f < 5 → J 232 (6 * a + f) = gn ρ n cl a f) ∧ (∀ f, f < x → J 232 (6 * i + f) = gn ρ n cl i f) ∧ AFm I J) (fun x s e_x => [some (.inr (.inr (some 208))), some (.inl (i : Int)), some (.inl (x : Int)), (e_x 3)]) ?_ (5) (0) (()) (fun k_ => ([some (.inr (.inr (some 208))), some (.inl (i : Int)), some (.inl 0), (e_i 3)] : am_L).getD k_ none) (J) (by omega) (⟨hEi, hgi, fun f hf => absurd hf (by omega), hfi⟩) rfl ?_
      · intro x s e_x J hix hvx hkx
        obtain ⟨hEx, hgo, hgx, hfx⟩ := hvx
        refine (ex_4_2 (ex_0 ?_))
        refine ex_ic3 (fun hc16 => by exfalso; omega) (fun hc16 => ?_)
        have hx5 : x < 5 := by omega
        by_cases h1x : (x : Int) < ρ 1
        · by_cases h2x : ρ (15 + x) = 0
          · by_cases hcan : m_can ρ n cl i x
            · have hg : gn ρ n cl i x = m_told ρ n cl i x := gn_t ⟨h1x, h2x, hcan⟩
              refine (ex_6_0 (ex_4_2 ?_))
              have hb21 : ((0 : Int) ≤ (x : Int) ∧ ((x : Int) : Int) < (ρ 1)) := by omega
              refine (ix_46 (S' := [(.inl 1)]) rfl (sh_208 hS) (c_isFolk_T hS (congrFun hEx.1 _) (by omega) hb21) rfl rfl (ex_if0 (fun hc => by exfalso; revert hc; decide) (fun _ => ?_)))
              refine (ex_6_0 (ix_41r (sh_208 hS) (pt_208_3 hS) (ex_0 (ex_4_2 (ex_add ⟨by omega, by omega⟩ (ix_30 (j := (15 + x)) (v := (ρ (15 + x))) (sh_210 hS) (by omega) (by omega) (by omega) (congrFun hEx.1 _) ?_))))))
              refine ex_if1 (fun hc36 => by exfalso; omega) (fun hc36 => ?_)
              refine (ex_6_0 (ex_4_1 (ex_4_2 ?_)))
              obtain ⟨K, eK, fK⟩ := c_canRing_t (d := d) hS hEx hi6 hx5 hcan
              refine (ix_46 (S' := [(.inl 1)]) rfl (sh_208 hS) eK rfl rfl (ex_if0 (fun hc => by exfalso; revert hc; decide) (fun _ => ?_)))
              refine (ex_0 (ex_28 (ex_7_3 rfl (ex_6_0 (ix_41r (sh_208 hS) (pt_208_44 hS) (ex_0 (ex_4_1 (ex_mul ⟨by omega, by omega⟩ (ex_4_2 (ex_add ⟨by omega, by omega⟩ (ex_4_3 (ex_if0 (fun hc => by exfalso; revert hc; decide) (fun _ => ?_)))))))))))))
              refine (ex_6_0 (ex_4_1 (ex_4_2 ?_)))
              obtain ⟨Q_, eQ, fQ⟩ := c_toldBy (d := d + 1) hS (ME_TF hEx fK) hi6 hx5
              refine (ix_46 (S' := [(.inl (m_told ρ n cl i x)), (.inl ((6 * (i : Int)) + (x : Int))), (.inr (.inr (some 232)))]) rfl (sh_208 hS) eQ rfl rfl (ex_28 (ix_34 (j := ((6 * i) + x)) (sh_232 hS) (by omega) (by omega) (by omega) (ex_10_2 ⟨by omega, by omega⟩ rfl (ex_28 ?_)))))
              exact hkx (()) (fun k_ => ([some (.inr (.inr (some 208))), some (.inl (i : Int)), some (.inl ((x : Int) + 1)), some (.inl 1)] : am_L).getD k_ none) _ (rfl) (⟨ME_AFm hEx (fun q k a b e g z => (u2_q g).trans (((TF_trans fK fQ) : TF J Q_) q k a b z)), fun a f ha hf => (u2_k (by omega)).trans ((((TF_trans fK fQ) : TF J Q_) _ _ (by decide) (by decide) (by omega)).trans (hgo a f ha hf)), fun f hf => (by rw [u2_at]; by_cases e : f = x; (rw [if_pos (by omega), e, hg]); (rw [if_neg (by omega), ((TF_trans fK fQ) : TF J Q_) _ _ (by decide) (by decide) (by omega)]; exact hgx f (by omega))), AFm_trans hfx (fun q k a b e g z => (u2_q g).trans (((TF_trans fK fQ) : TF J Q_) q k a b z))⟩)
            · have hg : gn ρ n cl i x = -1 := gn_f (fun z => hcan z.2.2)
              refine (ex_6_0 (ex_4_2 ?_))
              have hb21 : ((0 : Int) ≤ (x : Int) ∧ ((x : Int) : Int) < (ρ 1)) := by omega
              refine (ix_46 (S' := [(.inl 1)]) rfl (sh_208 hS) (c_isFolk_T hS (congrFun hEx.1 _) (by omega) hb21) rfl rfl (ex_if0 (fun hc => by exfalso; revert hc; decide) (fun _ => ?_)))
              refine (ex_6_0 (ix_41r (sh_208 hS) (pt_208_3 hS) (ex_0 (ex_4_2 (ex_add ⟨by omega, by omega⟩ (ix_30 (j := (15 + x)) (v := (ρ (15 + x))) (sh_210 hS) (by omega) (by omega) (by omega) (congrFun hEx.1 _) ?_))))))
              refine ex_if1 (fun hc36 => by exfalso; omega) (fun hc36 => ?_)
              refine (ex_6_0 (ex_4_1 (ex_4_2 ?_)))
              obtain ⟨K, eK, fK⟩ := c_canRing_f (d := d) hS hEx hi6 hx5 hcan
              refine (ix_46 (S' := [(.inl 0)]) rfl (sh_208 hS) eK rfl rfl (ex_if0 (fun _ => ?_) (fun hc => by exfalso; revert hc; decide)))
              refine (ex_0 (ex_58 (ex_7_3 rfl (ex_6_0 (ix_41r (sh_208 hS) (pt_208_44 hS) (ex_0 (ex_4_1 (ex_mul ⟨by omega, by omega⟩ (ex_4_2 (ex_add ⟨by omega, by omega⟩ (ex_4_3 (ex_if0 (fun _ => ?_) (fun hc => by exfalso; revert hc; decide)))))))))))))
              refine (ex_0 (ex_58 (ix_34 (j := ((6 * i) + x)) (sh_232 hS) (by omega) (by omega) (by omega) (ex_10_2 ⟨by omega, by omega⟩ rfl (ex_28 ?_)))))
              exact hkx (()) (fun k_ => ([some (.inr (.inr (some 208))), some (.inl (i : Int)), some (.inl ((x : Int) + 1)), some (.inl 0)] : am_L).getD k_ none) _ (rfl) (⟨ME_AFm hEx (fun q k a b e g z => (u2_q g).trans ((fK : TF J K) q k a b z)), fun a f ha hf => (u2_k (by omega)).trans (((fK : TF J K) _ _ (by decide) (by decide) (by omega)).trans (hgo a f ha hf)), fun f hf => (by rw [u2_at]; by_cases e : f = x; (rw [if_pos (by omega), e, hg]); (rw [if_neg (by omega), (fK : TF J K) _ _ (by decide) (by decide) (by omega)]; exact hgx f (by omega))), AFm_trans hfx (fun q k a b e g z => (u2_q g).trans ((fK : TF J K) q k a b z))⟩)
          · have hg : gn ρ n cl i x = -1 := gn_f (fun z => h2x z.2.1)
            refine (ex_6_0 (ex_4_2 ?_))
            have hb21 : ((0 : Int) ≤ (x : Int) ∧ ((x : Int) : Int) < (ρ 1)) := by omega
            refine (ix_46 (S' := [(.inl 1)]) rfl (sh_208 hS) (c_isFolk_T hS (congrFun hEx.1 _) (by omega) hb21) rfl rfl (ex_if0 (fun hc => by exfalso; revert hc; decide) (fun _ => ?_)))
            refine (ex_6_0 (ix_41r (sh_208 hS) (pt_208_3 hS) (ex_0 (ex_4_2 (ex_add ⟨by omega, by omega⟩ (ix_30 (j := (15 + x)) (v := (ρ (15 + x))) (sh_210 hS) (by omega) (by omega) (by omega) (congrFun hEx.1 _) ?_))))))
            refine ex_if1 (fun hc36 => ?_) (fun hc36 => by exfalso; omega)
            refine (ex_0 (ex_58 (ex_7_3 rfl (ex_6_0 (ix_41r (sh_208 hS) (pt_208_44 hS) (ex_0 (ex_4_1 (ex_mul ⟨by omega, by omega⟩ (ex_4_2 (ex_add ⟨by omega, by omega⟩ (ex_4_3 (ex_if0 (fun _ => ?_) (fun hc => by exfalso; revert hc; decide)))))))))))))
            refine (ex_0 (ex_58 (ix_34 (j := ((6 * i) + x)) (sh_232 hS) (by omega) (by omega) (by omega) (ex_10_2 ⟨by omega, by omega⟩ rfl (ex_28 ?_)))))
            exact hkx (()) (fun k_ => ([some (.inr (.inr (some 208))), some (.inl (i : Int)), some (.inl ((x : Int) + 1)), some (.inl 0)] : am_L).getD k_ none) _ (rfl) (⟨ME_AFm hEx (fun q k a b e g z => (u2_q g).trans ((TF_refl : TF J J) q k a b z)), fun a f ha hf => (u2_k (by omega)).trans (((TF_refl : TF J J) _ _ (by decide) (by decide) (by omega)).trans (hgo a f ha hf)), fun f hf => (by rw [u2_at]; by_cases e : f = x; (rw [if_pos (by omega), e, hg]); (rw [if_neg (by omega), (TF_refl : TF J J) _ _ (by decide) (by decide) (by omega)]; exact hgx f (by omega))), AFm_trans hfx (fun q k a b e g z => (u2_q g).trans ((TF_refl : TF J J) q k a b z))⟩)
        · have hg : gn ρ n cl i x = -1 := gn_f (fun z => h1x z.1)
          refine (ex_6_0 (ex_4_2 ?_))
          have hb21 : ¬ (((0 : Int) ≤ (x : Int) ∧ ((x : Int) : Int) < (ρ 1))) := by omega
          refine (ix_46 (S' := [(.inl 0)]) rfl (sh_208 hS) (c_isFolk_F hS (congrFun hEx.1 _) (by omega) hb21) rfl rfl (ex_if0 (fun _ => ?_) (fun hc => by exfalso; revert hc; decide)))
          refine (ex_0 (ex_58 (ex_7_3 rfl (ex_6_0 (ix_41r (sh_208 hS) (pt_208_44 hS) (ex_0 (ex_4_1 (ex_mul ⟨by omega, by omega⟩ (ex_4_2 (ex_add ⟨by omega, by omega⟩ (ex_4_3 (ex_if0 (fun _ => ?_) (fun hc => by exfalso; revert hc; decide)))))))))))))
          refine (ex_0 (ex_58 (ix_34 (j := ((6 * i) + x)) (sh_232 hS) (by omega) (by omega) (by omega) (ex_10_2 ⟨by omega, by omega⟩ rfl (ex_28 ?_)))))
          exact hkx (()) (fun k_ => ([some (.inr (.inr (some 208))), some (.inl (i : Int)), some (.inl ((x : Int) + 1)), some (.inl 0)] : am_L).getD k_ none) _ (rfl) (⟨ME_AFm hEx (fun q k a b e g z => (u2_q g).trans ((TF_refl : TF J J) q k a b z)), fun a f ha hf => (u2_k (by omega)).trans (((TF_refl : TF J J) _ _ (by decide) (by decide) (by omega)).trans (hgo a f ha hf)), fun f hf => (by rw [u2_at]; by_cases e : f = x; (rw [if_pos (by omega), e, hg]); (rw [if_neg (by omega), (TF_refl : TF J J) _ _ (by decide) (by decide) (by omega)]; exact hgx f (by omega))), AFm_trans hfx (fun q k a b e g z => (u2_q g).trans ((TF_refl : TF J J) q k a b z))⟩)
      · intro s e_x J hsx hvx
        obtain ⟨hEx, hgo, hgx, hfx⟩ := hvx
        refine (ex_4_2 (ex_0 ?_))
        refine ex_ic3 (fun hc16 => ?_) (fun hc16 => by exfalso; omega)
        refine (ex_10_1 ⟨by omega, by omega⟩ rfl (ex_28 ?_))
        exact hki (()) (fun k_ => ([some (.inr (.inr (some 208))), some (.inl ((i : Int) + 1)), some (.inl (5 : Int)), (e_x 3)] : am_L).getD k_ none) _ (rfl) (⟨hEx, fun a f ha hf => (by by_cases e : a = i; (rw [e]; exact hgx f hf); exact hgo a f (by omega) hf), hfx⟩)
    · intro s e_i J hsi hvi
      obtain ⟨hEi, hgi, hfi⟩ := hvi
      refine (ex_4_1 (ex_6_0 (ix_41r (sh_208 hS) (pt_208_3 hS) (ex_0 (ix_30 (j := 0) (v := (N : Int)) (sh_210 hS) (by decide) (by decide) rfl ((congrFun hEi.1 _).trans hN) ?_)))))
      refine ex_ic3 (fun hc9 => ?_) (fun hc9 => by exfalso; omega)
      exact ex_56 ⟨_, rfl, hEi, hgi, hfi⟩
  obtain ⟨o, e, I1, rfl, h⟩ := am_doQ (as := [(.inr (.inr (some 208)))]) (Nat.le_of_ble_eq_true rfl) rfl w
  exact ⟨I1, e, h⟩
theorem c_adds {d : Nat} {G : am_G} {I : Nat → Nat → Int} {P : Nat → Nat → Option Nat} (hS : ST G P) {g : Nat → Nat → Int} {c t f : Nat} (hc : c < 6) (ht : t < 32) (hf : f ≤ 5) (hg : ∀ f, f < 5 → I 232 (6 * c + f) = g c f) : am_call am_B am_M (d + 2) 253 [.inr (.inr (some 208)), .inl (c : Int), .inl (f : Int), .inl (t : Int)] (G, I, P) = some (some (.inl (if f = 5 then 0 else if t.testBit f = true then -1 else g c f)), (G, I, P)) := by
  by_cases h : f = 5
  · subst h; exact c_adds_n hS hc ht
  · rw [if_neg h]
    by_cases b : t.testBit f = true
    · rw [if_pos b]; exact c_adds_t hS hc (by omega) ht b
    · rw [if_neg b, c_adds_f hS hc (by omega) ht b, hg f (by omega)]
theorem c_behind {d : Nat} {G : am_G} {I : Nat → Nat → Int} {P : Nat → Nat → Option Nat} (hS : ST G P) {bn : Nat → Int} {c t f : Nat} (hc : c < 6) (ht : t < 32) (hf : f ≤ 5) (hb : ∀ t, t < 32 → I 231 (32 * (c + 1) + t) = bn t) : am_call am_B am_M (d + 1) 255 [.inr (.inr (some 208)), .inl (c : Int), .inl (f : Int), .inl (t : Int)] (G, I, P) = some (some (.inl (if f = 5 then bn t else bn (t ||| 2 ^ f))), (G, I, P)) := by
  by_cases h : f = 5
  · subst h; rw [if_pos rfl, ← hb t ht]; exact c_behindOf_n hS hc ht
  · rw [if_neg h, ← hb _ (Nat.or_lt_two_pow (n := 5) ht (Nat.pow_lt_pow_right (by decide) (by omega)))]; exact c_behindOf_f hS hc (by omega) ht
def ad (g : Nat → Nat → Int) (c t f : Nat) : Int := if f = 5 then 0 else if t.testBit f = true then -1 else g c f
def bh (bn : Nat → Int) (t f : Nat) : Int := if f = 5 then bn t else bn (t ||| 2 ^ f)
theorem mw_a {g : Nat → Nat → Int} {bn : Nat → Int} {c t f : Nat} : mw g bn c t f = if ad g c t f = -1 then -1 else ad g c t f + bh bn t f := by
  unfold mw ad bh
  by_cases h : f = 5
  · rw [if_pos h, if_pos h, if_pos h, if_neg (by decide)]; omega
  · rw [if_neg h, if_neg h, if_neg h]
    by_cases b : t.testBit f = true
    · rw [if_pos (Or.inr b), if_pos b, if_pos rfl]
    · rw [if_neg b]
      by_cases e : g c f = -1
      · rw [if_pos (Or.inl e), if_pos e]
      · rw [if_neg (by rintro (z | z); exact e z; exact b z), if_neg e]
theorem ad_b {g : Nat → Nat → Int} {c t f : Nat} (hg : ∀ c f, -1 ≤ g c f ∧ g c f ≤ 9) : -1 ≤ ad g c t f ∧ ad g c t f ≤ 9 := by
  have := hg c f
  unfold ad
  (repeat' split) <;> omega
theorem bh_b {bn : Nat → Int} {t f : Nat} {B : Int} (hb : ∀ t, 0 ≤ bn t ∧ bn t ≤ B) : 0 ≤ bh bn t f ∧ bh bn t f ≤ B := by
  unfold bh
  split
  · exact hb _
  · exact hb _
theorem c_layAns {d : Nat} {G : am_G} {I : Nat → Nat → Int} {P : Nat → Nat → Option Nat} (hS : ST G P) {ρ : Nat → Int} {n : Nat} {cl : Nat → Cl} (hM : ME I ρ n cl) {N : Nat} (hN : ρ 0 = (N : Int)) : ∃ I1, am_call am_B am_M (d + 10) 256 [(.inr (.inr (some 208)))] (G, I, P) = some (none, (G, I1, P)) ∧ (ME I1 ρ n cl ∧ (∀ a f, a < N → f < 5 → I1 232 (6 * a + f) = gn ρ n cl a f) ∧ (∀ k t, k ≤ N → t < 32 → I1 231 (32 * (N - k) + t) = BS (gn ρ n cl) N k t) ∧ AFm I I1) := by
  have h06 := RW_n0 hM.2.1
  have h15 := RW_n1 hM.2.1
  have w : am_ex (am_call am_B am_M (d + 9)) (am_B 256) (am_B 256 0) [some (.inr (.inr (some 208))), none, none, none, none, none, none, none] [] (G, I, P) (fun o => ∃ I1, o = (none, (G, I1, P)) ∧ (ME I1 ρ n cl ∧ (∀ a f, a < N → f < 5 → I1 232 (6 * a + f) = gn ρ n cl a f) ∧ (∀ k t, k ≤ N → t < 32 → I1 231 (32 * (N - k) + t) = BS (gn ρ n cl) N k t) ∧ AFm I I1)) := by
    refine (ex_6_0 ?_)
    obtain ⟨JW, eW, hEW, hgW, hfW⟩ := c_layTold (d := d) hS hM hN
    refine (ix_46 (S' := []) rfl (sh_208 hS) eW rfl rfl (ex_6_0 (ix_41r (sh_208 hS) (pt_208_3 hS) (ex_0 (ix_30 (j := 0) (v := (N : Int)) (sh_210 hS) (by decide) (by decide) rfl ((congrFun hEW.1 _).trans hN) (ex_7_1 rfl (ex_0 (ex_7_2 rfl (ex_58 ?_)))))))))
    refine ex_forR (b := 1) (σ := Unit) (32) (fun x s => s) (fun x s J => ME J ρ n cl ∧ (∀ a f, a < N → f < 5 → J 232 (6 * a + f) = gn ρ n cl a f) ∧ (∀ t, t < x → J 231 (32 * N + t) = 0) ∧ AFm I J) (fun x s e_x => [some (.inr (.inr (some 208))), some (.inl (N : Int)), some (.inl (x : Int)), none, none, none, none, none]) ?_ (32) (0) (()) (fun k_ => ([some (.inr (.inr (some 208))), some (.inl (N : Int)), some (.inl 0), none, none, none, none, none] : am_L).getD k_ none) (JW) (by omega) (⟨hEW, hgW, fun t ht => absurd ht (by omega), hfW⟩) rfl ?_
    · intro x s e_x J hix hvx hkx
      obtain ⟨hEx, hgx, hzx, hfx⟩ := hvx
      refine (ex_4_2 (ex_0 ?_))
      refine ex_ic3 (fun hc16 => by exfalso; omega) (fun hc16 => ?_)
      refine (ex_6_0 (ix_41r (sh_208 hS) (pt_208_43 hS) (ex_0 (ex_4_1 (ex_mul ⟨by omega, by omega⟩ (ex_4_2 (ex_add ⟨by omega, by omega⟩ (ex_0 (ix_34 (j := ((32 * N) + x)) (sh_231 hS) (by omega) (by omega) (by omega) (ex_10_2 ⟨by omega, by omega⟩ rfl (ex_28 ?_)))))))))))
      exact hkx (()) (fun k_ => ([some (.inr (.inr (some 208))), some (.inl (N : Int)), some (.inl ((x : Int) + 1)), none, none, none, none, none] : am_L).getD k_ none) _ (rfl) (⟨ME_AFm hEx (fun q k a b e g z => u2_q e), fun a f ha hf => (u2_q (by decide)).trans (hgx a f ha hf), fun t ht => (by rw [u2_at]; by_cases e : t = x; (rw [if_pos (by omega)]); (rw [if_neg (by omega)]; exact hzx t (by omega))), AFm_trans hfx (fun q k a b e g z => u2_q e)⟩)
    · intro s e_x J hsx hvx
      obtain ⟨hEx, hgx, hzx, hfx⟩ := hvx
      refine (ex_4_2 (ex_0 ?_))
      refine ex_ic3 (fun hc16 => ?_) (fun hc16 => by exfalso; omega)
      refine (ex_4_1 (ex_0 (ex_sub ⟨by omega, by omega⟩ (ex_7_2 rfl (ex_58 ?_)))))
      rw [show ((N : Int) - 1) = (N : Int) - 1 - ((0 : Nat) : Int) by omega]
      refine ex_forR (b := 4) (σ := Unit) (N) (fun i s => s) (fun i s J => ME J ρ n cl ∧ (∀ a f, a < N → f < 5 → J 232 (6 * a + f) = gn ρ n cl a f) ∧ (∀ k t, k ≤ i → t < 32 → J 231 (32 * (N - k) + t) = BS (gn ρ n cl) N k t) ∧ AFm I J) (fun i s e_i => [some (.inr (.inr (some 208))), some (.inl (N : Int)), some (.inl ((N : Int) - 1 - (i : Int))), (e_i 3), (e_i 4), (e_i 5), (e_i 6), (e_i 7)]) ?_ (N) (0) (()) (fun k_ => ([some (.inr (.inr (some 208))), some (.inl (N : Int)), some (.inl ((N : Int) - 1 - ((0 : Nat) : Int))), none, none, none, none, none] : am_L).getD k_ none) (J) (by omega) (⟨hEx, hgx, fun k t hk ht => (show J 231 (32 * (N - k) + t) = BS (gn ρ n cl) N k t from (Nat.le_zero.mp hk) ▸ hzx t ht), hfx⟩) rfl ?_
      · intro i s e_i J hii hvi hki
        obtain ⟨hEi, hgi, htbi, hfi⟩ := hvi
        refine (ex_4_2 ?_)
        refine ex_if2 (fun hc42 => by exfalso; omega) (fun hc42 => ?_)
        rw [show (N : Int) - 1 - (i : Int) = ((N - 1 - i : Nat) : Int) by omega]
        refine (ex_0 (ex_7_3 rfl (ex_58 ?_)))
        refine ex_forR (b := 6) (σ := Unit) (32) (fun x s => s) (fun x s J => ME J ρ n cl ∧ (∀ a f, a < N → f < 5 → J 232 (6 * a + f) = gn ρ n cl a f) ∧ (∀ k t, k ≤ i → t < 32 → J 231 (32 * (N - k) + t) = BS (gn ρ n cl) N k t) ∧ (∀ t, t < x → J 231 (32 * (N - 1 - i) + t) = BS (gn ρ n cl) N (i + 1) t) ∧ AFm I J) (fun x s e_x => [some (.inr (.inr (some 208))), some (.inl (N : Int)), some (.inl ((N - 1 - i : Nat) : Int)), some (.inl (x : Int)), (e_x 4), (e_x 5), (e_x 6), (e_x 7)]) ?_ (32) (0) (()) (fun k_ => ([some (.inr (.inr (some 208))), some (.inl (N : Int)), some (.inl ((N - 1 - i : Nat) : Int)), some (.inl 0), (e_i 4), (e_i 5), (e_i 6), (e_i 7)] : am_L).getD k_ none) (J) (by omega) (⟨hEi, hgi, htbi, fun t ht => absurd ht (by omega), hfi⟩) rfl ?_
        · intro x s e_x J hix hvx hkx
          obtain ⟨hEx, hgx, htb, htx, hfx⟩ := hvx
          refine (ex_4_3 (ex_0 ?_))
          refine ex_ic3 (fun hc50 => by exfalso; omega) (fun hc50 => ?_)
          refine (ex_0 (ex_7_4 rfl (ex_0 (ex_7_5 rfl (ex_58 ?_)))))
          refine ex_forH (b := 8) (σ := Int) (6) (fun who top => mxi top (mw (gn ρ n cl) (BS (gn ρ n cl) N i) (N - 1 - i) x who)) (fun who top => True) (fun who top e_who => [some (.inr (.inr (some 208))), some (.inl (N : Int)), some (.inl ((N - 1 - i : Nat) : Int)), some (.inl (x : Int)), some (.inl top), some (.inl (who : Int)), (e_who 6), (e_who 7)]) (fun who top => (G, J, P)) ?_ ?_ (6) (0) (0) (fun k_ => ([some (.inr (.inr (some 208))), some (.inl (N : Int)), some (.inl ((N - 1 - i : Nat) : Int)), some (.inl (x : Int)), some (.inl 0), some (.inl 0), (e_x 6), (e_x 7)] : am_L).getD k_ none) (by omega) (trivial) rfl (rfl) ?_
          · intro who top hiwho hvwho
            exact trivial
          · intro who top e_who hiwho hvwho top' hswho hkwho
            have hab := ad_b (g := (gn ρ n cl)) (c := (N - 1 - i)) (t := x) (f := who) (fun c f => gn_b (ρ := ρ) (n := n) (cl := cl) (c := c) (f := f))
            have hbb := bh_b (bn := BS (gn ρ n cl) N i) (t := x) (f := who) (fun t => BS_b (N := N) (fun c f => gn_b (ρ := ρ) (n := n) (cl := cl) (c := c) (f := f)) i t)
            refine (ex_4_5 (ex_0 ?_))
            refine ex_ic4 (fun hc62 => by exfalso; omega) (fun hc62 => ?_)
            refine (ex_6_0 (ex_4_2 (ex_4_5 (ex_4_3 (ix_46 (S' := [(.inl (ad (gn ρ n cl) (N - 1 - i) x who))]) rfl (sh_208 hS) (c_adds (g := (gn ρ n cl)) (c := (N - 1 - i)) (t := x) (f := who) hS (by omega) (by omega) (by omega) (fun f hf => hgx _ f (by omega) hf)) rfl rfl (ex_7_6 rfl (ex_4_6 (ex_0 ?_))))))))
            refine ex_ic1 (fun hc78 => ?_) (fun hc78 => ?_)
            · refine (ex_4_6 (ex_6_0 (ex_4_2 (ex_4_5 (ex_4_3 (ix_46 (S' := [(.inl (bh (BS (gn ρ n cl) N i) x who)), (.inl (ad (gn ρ n cl) (N - 1 - i) x who))]) rfl (sh_208 hS) (c_behind (bn := BS (gn ρ n cl) N i) (c := (N - 1 - i)) (t := x) (f := who) hS (by omega) (by omega) (by omega) (fun t ht => by rw [show N - 1 - i + 1 = N - i by omega]; exact htb i t (Nat.le_refl _) ht)) rfl rfl (ex_add ⟨by omega, by omega⟩ (ex_58 (ex_7_7 rfl (ex_4_7 (ex_4_4 ?_)))))))))))
              refine ex_ic5 (fun hc102 => ?_) (fun hc102 => ?_)
              · refine (ex_4_4 (ex_58 (ex_7_4 rfl (ex_10_5 ⟨by omega, by omega⟩ rfl (ex_28 ?_)))))
                have ht_ : top' = top := by rw [hswho, mw_a]; unfold mxi; (repeat' split) <;> omega
                rw [ht_] at hkwho
                exact hkwho (fun k_ => ([some (.inr (.inr (some 208))), some (.inl (N : Int)), some (.inl ((N - 1 - i : Nat) : Int)), some (.inl (x : Int)), some (.inl top), some (.inl ((who : Int) + 1)), some (.inl (ad (gn ρ n cl) (N - 1 - i) x who)), some (.inl ((ad (gn ρ n cl) (N - 1 - i) x who) + (bh (BS (gn ρ n cl) N i) x who)))] : am_L).getD k_ none)
              · refine (ex_4_7 (ex_28 (ex_7_4 rfl (ex_10_5 ⟨by omega, by omega⟩ rfl (ex_28 ?_)))))
                have ht_ : top' = ((ad (gn ρ n cl) (N - 1 - i) x who) + (bh (BS (gn ρ n cl) N i) x who)) := by rw [hswho, mw_a]; unfold mxi; (repeat' split) <;> omega
                rw [ht_] at hkwho
                exact hkwho (fun k_ => ([some (.inr (.inr (some 208))), some (.inl (N : Int)), some (.inl ((N - 1 - i : Nat) : Int)), some (.inl (x : Int)), some (.inl ((ad (gn ρ n cl) (N - 1 - i) x who) + (bh (BS (gn ρ n cl) N i) x who))), some (.inl ((who : Int) + 1)), some (.inl (ad (gn ρ n cl) (N - 1 - i) x who)), some (.inl ((ad (gn ρ n cl) (N - 1 - i) x who) + (bh (BS (gn ρ n cl) N i) x who)))] : am_L).getD k_ none)
            · refine (ex_0 (ex_28 (ex_7_7 rfl (ex_4_7 (ex_4_4 ?_)))))
              refine ex_ic5 (fun hc102 => ?_) (fun hc102 => ?_)
              · refine (ex_4_4 (ex_58 (ex_7_4 rfl (ex_10_5 ⟨by omega, by omega⟩ rfl (ex_28 ?_)))))
                have ht_ : top' = top := by rw [hswho, mw_a]; unfold mxi; (repeat' split) <;> omega
                rw [ht_] at hkwho
                exact hkwho (fun k_ => ([some (.inr (.inr (some 208))), some (.inl (N : Int)), some (.inl ((N - 1 - i : Nat) : Int)), some (.inl (x : Int)), some (.inl top), some (.inl ((who : Int) + 1)), some (.inl (ad (gn ρ n cl) (N - 1 - i) x who)), some (.inl (-1))] : am_L).getD k_ none)
              · refine (ex_4_7 (ex_28 (ex_7_4 rfl (ex_10_5 ⟨by omega, by omega⟩ rfl (ex_28 ?_)))))
                have ht_ : top' = (-1) := by rw [hswho, mw_a]; unfold mxi; (repeat' split) <;> omega
                rw [ht_] at hkwho
                exact hkwho (fun k_ => ([some (.inr (.inr (some 208))), some (.inl (N : Int)), some (.inl ((N - 1 - i : Nat) : Int)), some (.inl (x : Int)), some (.inl (-1)), some (.inl ((who : Int) + 1)), some (.inl (ad (gn ρ n cl) (N - 1 - i) x who)), some (.inl (-1))] : am_L).getD k_ none)
          · intro top e_who hswho hvwho
            refine (ex_4_5 (ex_0 ?_))
            refine ex_ic4 (fun hc62 => ?_) (fun hc62 => by exfalso; omega)
            refine (ex_6_0 (ix_41r (sh_208 hS) (pt_208_43 hS) (ex_0 (ex_4_2 (ex_mul ⟨by omega, by omega⟩ (ex_4_3 (ex_add ⟨by omega, by omega⟩ (ex_4_4 (ix_34 (j := ((32 * (N - 1 - i)) + x)) (sh_231 hS) (by omega) (by omega) (by omega) (ex_10_3 ⟨by omega, by omega⟩ rfl (ex_28 ?_)))))))))))
            exact hkx (()) (fun k_ => ([some (.inr (.inr (some 208))), some (.inl (N : Int)), some (.inl ((N - 1 - i : Nat) : Int)), some (.inl ((x : Int) + 1)), some (.inl top), some (.inl (6 : Int)), (e_who 6), (e_who 7)] : am_L).getD k_ none) _ (rfl) (⟨ME_AFm hEx (fun q k a b e g z => u2_q e), fun a f ha hf => (u2_q (by decide)).trans (hgx a f ha hf), fun k t hk ht => (u2_k (by omega)).trans (htb k t hk ht), fun t ht => (by rw [u2_at]; by_cases e : t = x; (rw [if_pos (by omega), e]; exact hswho); (rw [if_neg (by omega)]; exact htx t (by omega))), AFm_trans hfx (fun q k a b e g z => u2_q e)⟩)
        · intro s e_x J hsx hvx
          obtain ⟨hEx, hgx, htb, htx, hfx⟩ := hvx
          refine (ex_4_3 (ex_0 ?_))
          refine ex_ic3 (fun hc50 => ?_) (fun hc50 => by exfalso; omega)
          refine (ex_10_2 ⟨by omega, by omega⟩ rfl (ex_28 ?_))
          rw [show ((N - 1 - i : Nat) : Int) + (-1) = (N : Int) - 1 - ((i + 1 : Nat) : Int) by omega]
          exact hki (()) (fun k_ => ([some (.inr (.inr (some 208))), some (.inl (N : Int)), some (.inl (((N - 1 - i : Nat) : Int) + (-1))), some (.inl (32 : Int)), (e_x 4), (e_x 5), (e_x 6), (e_x 7)] : am_L).getD k_ none) _ (rfl) (⟨hEx, hgx, fun k t hk ht => (by by_cases e : k = i + 1; (rw [e, show N - (i + 1) = N - 1 - i by omega]; exact htx t ht); exact htb k t (by omega) ht), hfx⟩)
      · intro s e_i J hsi hvi
        obtain ⟨hEi, hgi, htbi, hfi⟩ := hvi
        refine (ex_4_2 ?_)
        refine ex_if2 (fun hc42 => ?_) (fun hc42 => by exfalso; omega)
        exact ex_56 ⟨_, rfl, hEi, hgi, htbi, hfi⟩
  obtain ⟨o, e, I1, rfl, h⟩ := am_doQ (as := [(.inr (.inr (some 208)))]) (Nat.le_of_ble_eq_true rfl) rfl w
  exact ⟨I1, e, h⟩
