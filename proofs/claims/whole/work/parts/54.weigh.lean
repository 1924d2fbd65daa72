/-! ===== the class: who should answer whom: what each cloud brings ===== -/
noncomputable def gn (ρ : Nat → Int) (n : Nat) (cl : Nat → Cl) (c f : Nat) : Int := @ite Int ((f : Int) < ρ 1 ∧ ρ (15 + f) = 0 ∧ m_can ρ n cl c f) (Classical.propDecidable _) (m_told ρ n cl c f) (-1)
theorem gn_t {ρ : Nat → Int} {n : Nat} {cl : Nat → Cl} {c f : Nat} (h : (f : Int) < ρ 1 ∧ ρ (15 + f) = 0 ∧ m_can ρ n cl c f) : gn ρ n cl c f = m_told ρ n cl c f := by
  unfold gn; exact if_pos h
theorem gn_f {ρ : Nat → Int} {n : Nat} {cl : Nat → Cl} {c f : Nat} (h : ¬ ((f : Int) < ρ 1 ∧ ρ (15 + f) = 0 ∧ m_can ρ n cl c f)) : gn ρ n cl c f = -1 := by
  unfold gn; exact if_neg h
theorem gn_b {ρ : Nat → Int} {n : Nat} {cl : Nat → Cl} {c f : Nat} : -1 ≤ gn ρ n cl c f ∧ gn ρ n cl c f ≤ 9 := by
  have := m_told_b (ρ := ρ) (n := n) (cl := cl) (c := c) (f := f)
  by_cases h : (f : Int) < ρ 1 ∧ ρ (15 + f) = 0 ∧ m_can ρ n cl c f
  · rw [gn_t h]; omega
  · rw [gn_f h]; omega
/-- all but where answers are worked out -/
def AF (I J : Nat → Nat → Int) : Prop := ∀ q k, ¬ q = 89 → ¬ q = 90 → ¬ (117 ≤ q ∧ q ≤ 120) → J q k = I q k
theorem AF_refl {I : Nat → Nat → Int} : AF I I := fun _ _ _ _ _ => rfl
theorem AF_trans {I J K : Nat → Nat → Int} (h : AF I J) (h2 : AF J K) : AF I K := fun q k a b c => (h2 q k a b c).trans (h q k a b c)
theorem AF_LF {I J : Nat → Nat → Int} (h : LF I J) : AF I J := fun q k a b _ => h q k a b
theorem CE_AF {G : am_G} {I J : Nat → Nat → Int} {P : Nat → Nat → Option Nat} {c n : Nat} {ρ : Nat → Int} {cl : Nat → Cl} (hC : CQ c) (h : CE G I P c ρ n cl) (hf : AF I J) : CE G J P c ρ n cl := CE_set h (CC_fr h.1 (fun q k h1 h2 _ => hf q k (by unfold CQ at hC; omega) (by unfold CQ at hC; omega) (by unfold CQ at hC; omega))) h.2.1 rfl (fun q k h => hf q k (by omega) (by omega) (by omega))
theorem k_weigh {d : Nat} {G : am_G} {I : Nat → Nat → Int} {P : Nat → Nat → Option Nat} (hS : ST G P) {c : Nat} (hCc : CQ c) {ρ : Nat → Int} {n : Nat} {cl : Nat → Cl} (hE : CE G I P c ρ n cl) {N : Nat} (hN : ρ 0 = (N : Int)) (hBN : BarN n cl) : ∃ I1, am_call am_B am_M (d + 5) 2 [(.inr (.inr (some 116))), (.inr (.inr (some c)))] (G, I, P) = some (none, (G, I1, P)) ∧ (CE G I1 P c ρ n cl ∧ (∀ a f, a < N → f < 5 → I1 117 (a * 5 + f) = gn ρ n cl a f) ∧ AF I I1) := by
  have h06 := RW_n0 hE.2.1
  have h15 := RW_n1 hE.2.1
  have hqc : c = 65 ∨ c = 93 ∨ c = 122 ∨ c = 139 ∨ c = 174 ∨ c = 191 := hCc
  have w : am_ex (am_call am_B am_M (d + 4)) (am_B 2) (am_B 2 0) [some (.inr (.inr (some 116))), some (.inr (.inr (some c))), none, none, none] [] (G, I, P) (fun o => ∃ I1, o = (none, (G, I1, P)) ∧ (CE G I1 P c ρ n cl ∧ (∀ a f, a < N → f < 5 → I1 117 (a * 5 + f) = gn ρ n cl a f) ∧ AF I I1)) := by
    refine (ex_0 (ex_7_2 rfl (ex_58 ?_)))
    refine ex_forR (b := 1) (σ := Unit) (N) (fun i s => s) (fun i s J => CE G J P c ρ n cl ∧ (∀ a f, a < i → f < 5 → J 117 (a * 5 + f) = gn ρ n cl a f) ∧ AF I J) (fun i s e_i => [some (.inr (.inr (some 116))), some (.inr (.inr (some c))), some (.inl (i : Int)), (e_i 3), (e_i 4)]) ?_ (N) (0) (()) (fun k_ => ([some (.inr (.inr (some 116))), some (.inr (.inr (some c))), some (.inl 0), none, none] : am_L).getD k_ none) (I) (by omega) (⟨hE, fun a f ha => absurd ha (by omega), AF_refl⟩) rfl ?_
    · intro i s e_i J hii hvi hki
      obtain ⟨hEi, hgi, hfi⟩ := hvi
      have hi6 : i < 6 := by omega
      refine (ex_4_2 (ex_6_1 (ix_41i (v := (N : Int)) (cs_0 hS hCc) ((CC_n0 hEi.1).trans hN) ?_)))
      refine ex_ic3 (fun hc7 => by exfalso; omega) (fun hc7 => ?_)
      refine (ex_0 (ex_7_3 rfl (ex_58 ?_)))
      refine ex_forR (b := 3) (σ := Unit) (5) (fun x s => s) (fun x s J => CE G J P c ρ n cl ∧ (∀ a f, a < i → f < 5 → J 117 (a * 5 + f) = gn ρ n cl a f) ∧ (∀ f, f < x → J 117 (i * 5 + f) = gn ρ n cl i f) ∧ AF I J) (fun x s e_x => [some (.inr (.inr (some 116))), some (.inr (.inr (some c))), some (.inl (i : Int)), some (.inl (x : Int)), (e_x 4)]) ?_ (5) (0) (()) (fun k_ => ([some (.inr (.inr (some 116))), some (.inr (.inr (some c))), some (.inl (i : Int)), some (.inl 0), (e_i 4)] : am_L).getD k_ none) (J) (by omega) (⟨hEi, hgi, fun f hf => absurd hf (by omega), hfi⟩) rfl ?_
      · intro x s e_x J hix hvx hkx
        obtain ⟨hEx, hgo, hgx, hfx⟩ := hvx
        refine (ex_4_3 (ex_0 ?_))
        refine ex_ic3 (fun hc14 => by exfalso; omega) (fun hc14 => ?_)
        by_cases h1x : (x : Int) < ρ 1
        · by_cases h2x : ρ (15 + x) = 0
          · by_cases hcan : m_can ρ n cl i x
            · have hg : gn ρ n cl i x = m_told ρ n cl i x := gn_t ⟨h1x, h2x, hcan⟩
              have hx1 := h1x
              refine (ex_4_3 (ex_6_1 (ix_41i (v := (ρ 1)) (cs_0 hS hCc) (CC_n1 hEx.1) ?_)))
              refine ex_ic3 (fun hc22 => by exfalso; omega) (fun hc22 => ?_)
              refine (ex_6_1 (ix_41r (cs_0 hS hCc) (cp_0_7 hS hCc) (ex_4_3 (ix_30 (j := x) (v := (ρ (15 + x))) (cs_10 hS hCc) (by omega) (by omega) (by omega) (CC_en hEx.1 x (by omega)) ?_))))
              refine ex_if1 (fun hc31 => by exfalso; omega) (fun hc31 => ?_)
              refine (ex_6_0 (ix_41r (sh_116 hS) (pt_116_0 hS) (ex_6_1 (ex_4_2 (ex_4_3 ?_)))))
              obtain ⟨K, eK, fK⟩ := k_can_t (d := d) hS hCc hEx hi6 hx1 hBN hcan
              refine (ix_46 (S' := [(.inl 1)]) rfl (sh_88 hS) eK rfl rfl (ex_if0 (fun hc => by exfalso; revert hc; decide) (fun _ => ?_)))
              refine (ex_0 (ex_28 (ex_7_4 rfl (ex_6_0 (ix_41r (sh_116 hS) (pt_116_1 hS) (ex_4_2 (ex_0 (ex_mul ⟨by omega, by omega⟩ (ex_4_3 (ex_add ⟨by omega, by omega⟩ (ex_4_4 (ex_if0 (fun hc => by exfalso; revert hc; decide) (fun _ => ?_)))))))))))))
              refine (ex_6_0 (ix_41r (sh_116 hS) (pt_116_0 hS) (ex_6_1 (ex_4_2 (ex_4_3 ?_)))))
              obtain ⟨Q_, eQ, fQ⟩ := k_told (d := d) hS hCc (CE_LF hCc hEx fK) hi6 hx1
              refine (ix_46 (S' := [(.inl (m_told ρ n cl i x)), (.inl (((i : Int) * 5) + (x : Int))), (.inr (.inr (some 117)))]) rfl (sh_88 hS) eQ rfl rfl (ex_28 (ix_34 (j := ((i * 5) + x)) (sh_117 hS) (by omega) (by omega) (by omega) (ex_10_3 ⟨by omega, by omega⟩ rfl (ex_28 ?_)))))
              exact hkx (()) (fun k_ => ([some (.inr (.inr (some 116))), some (.inr (.inr (some c))), some (.inl (i : Int)), some (.inl ((x : Int) + 1)), some (.inl 1)] : am_L).getD k_ none) _ (rfl) (⟨CE_AF hCc hEx (fun q k a b e => (u2_q (by omega)).trans (((LF_trans fK fQ) : LF J Q_) q k a b)), fun a f ha hf => (u2_k (by omega)).trans ((((LF_trans fK fQ) : LF J Q_) _ _ (by decide) (by decide)).trans (hgo a f ha hf)), fun f hf => (by rw [u2_at]; by_cases e : f = x; (rw [if_pos (by omega), e, hg]); (rw [if_neg (by omega), ((LF_trans fK fQ) : LF J Q_) _ _ (by decide) (by decide)]; exact hgx f (by omega))), AF_trans hfx (fun q k a b e => (u2_q (by omega)).trans (((LF_trans fK fQ) : LF J Q_) q k a b))⟩)
            · have hg : gn ρ n cl i x = -1 := gn_f (fun z => hcan z.2.2)
              have hx1 := h1x
              refine (ex_4_3 (ex_6_1 (ix_41i (v := (ρ 1)) (cs_0 hS hCc) (CC_n1 hEx.1) ?_)))
              refine ex_ic3 (fun hc22 => by exfalso; omega) (fun hc22 => ?_)
              refine (ex_6_1 (ix_41r (cs_0 hS hCc) (cp_0_7 hS hCc) (ex_4_3 (ix_30 (j := x) (v := (ρ (15 + x))) (cs_10 hS hCc) (by omega) (by omega) (by omega) (CC_en hEx.1 x (by omega)) ?_))))
              refine ex_if1 (fun hc31 => by exfalso; omega) (fun hc31 => ?_)
              refine (ex_6_0 (ix_41r (sh_116 hS) (pt_116_0 hS) (ex_6_1 (ex_4_2 (ex_4_3 ?_)))))
              obtain ⟨K, eK, fK⟩ := k_can_f (d := d) hS hCc hEx hi6 hx1 hBN hcan
              refine (ix_46 (S' := [(.inl 0)]) rfl (sh_88 hS) eK rfl rfl (ex_if0 (fun _ => ?_) (fun hc => by exfalso; revert hc; decide)))
              refine (ex_0 (ex_58 (ex_7_4 rfl (ex_6_0 (ix_41r (sh_116 hS) (pt_116_1 hS) (ex_4_2 (ex_0 (ex_mul ⟨by omega, by omega⟩ (ex_4_3 (ex_add ⟨by omega, by omega⟩ (ex_4_4 (ex_if0 (fun _ => ?_) (fun hc => by exfalso; revert hc; decide)))))))))))))
              refine (ex_0 (ex_58 (ix_34 (j := ((i * 5) + x)) (sh_117 hS) (by omega) (by omega) (by omega) (ex_10_3 ⟨by omega, by omega⟩ rfl (ex_28 ?_)))))
              exact hkx (()) (fun k_ => ([some (.inr (.inr (some 116))), some (.inr (.inr (some c))), some (.inl (i : Int)), some (.inl ((x : Int) + 1)), some (.inl 0)] : am_L).getD k_ none) _ (rfl) (⟨CE_AF hCc hEx (fun q k a b e => (u2_q (by omega)).trans ((fK : LF J K) q k a b)), fun a f ha hf => (u2_k (by omega)).trans (((fK : LF J K) _ _ (by decide) (by decide)).trans (hgo a f ha hf)), fun f hf => (by rw [u2_at]; by_cases e : f = x; (rw [if_pos (by omega), e, hg]); (rw [if_neg (by omega), (fK : LF J K) _ _ (by decide) (by decide)]; exact hgx f (by omega))), AF_trans hfx (fun q k a b e => (u2_q (by omega)).trans ((fK : LF J K) q k a b))⟩)
          · have hg : gn ρ n cl i x = -1 := gn_f (fun z => h2x z.2.1)
            refine (ex_4_3 (ex_6_1 (ix_41i (v := (ρ 1)) (cs_0 hS hCc) (CC_n1 hEx.1) ?_)))
            refine ex_ic3 (fun hc22 => by exfalso; omega) (fun hc22 => ?_)
            refine (ex_6_1 (ix_41r (cs_0 hS hCc) (cp_0_7 hS hCc) (ex_4_3 (ix_30 (j := x) (v := (ρ (15 + x))) (cs_10 hS hCc) (by omega) (by omega) (by omega) (CC_en hEx.1 x (by omega)) ?_))))
            refine ex_if1 (fun hc31 => ?_) (fun hc31 => by exfalso; omega)
            refine (ex_0 (ex_58 (ex_7_4 rfl (ex_6_0 (ix_41r (sh_116 hS) (pt_116_1 hS) (ex_4_2 (ex_0 (ex_mul ⟨by omega, by omega⟩ (ex_4_3 (ex_add ⟨by omega, by omega⟩ (ex_4_4 (ex_if0 (fun _ => ?_) (fun hc => by exfalso; revert hc; decide)))))))))))))
            refine (ex_0 (ex_58 (ix_34 (j := ((i * 5) + x)) (sh_117 hS) (by omega) (by omega) (by omega) (ex_10_3 ⟨by omega, by omega⟩ rfl (ex_28 ?_)))))
            exact hkx (()) (fun k_ => ([some (.inr (.inr (some 116))), some (.inr (.inr (some c))), some (.inl (i : Int)), some (.inl ((x : Int) + 1)), some (.inl 0)] : am_L).getD k_ none) _ (rfl) (⟨CE_AF hCc hEx (fun q k a b e => (u2_q (by omega)).trans ((LF_refl : LF J J) q k a b)), fun a f ha hf => (u2_k (by omega)).trans (((LF_refl : LF J J) _ _ (by decide) (by decide)).trans (hgo a f ha hf)), fun f hf => (by rw [u2_at]; by_cases e : f = x; (rw [if_pos (by omega), e, hg]); (rw [if_neg (by omega), (LF_refl : LF J J) _ _ (by decide) (by decide)]; exact hgx f (by omega))), AF_trans hfx (fun q k a b e => (u2_q (by omega)).trans ((LF_refl : LF J J) q k a b))⟩)
        · have hg : gn ρ n cl i x = -1 := gn_f (fun z => h1x z.1)
          refine (ex_4_3 (ex_6_1 (ix_41i (v := (ρ 1)) (cs_0 hS hCc) (CC_n1 hEx.1) ?_)))
          refine ex_ic3 (fun hc22 => ?_) (fun hc22 => by exfalso; omega)
          refine (ex_0 (ex_58 (ex_7_4 rfl (ex_6_0 (ix_41r (sh_116 hS) (pt_116_1 hS) (ex_4_2 (ex_0 (ex_mul ⟨by omega, by omega⟩ (ex_4_3 (ex_add ⟨by omega, by omega⟩ (ex_4_4 (ex_if0 (fun _ => ?_) (fun hc => by exfalso; revert hc; decide)))))))))))))
          refine (ex_0 (ex_58 (ix_34 (j := ((i * 5) + x)) (sh_117 hS) (by omega) (by omega) (by omega) (ex_10_3 ⟨by omega, by omega⟩ rfl (ex_28 ?_)))))
          exact hkx (()) (fun k_ => ([some (.inr (.inr (some 116))), some (.inr (.inr (some c))), some (.inl (i : Int)), some (.inl ((x : Int) + 1)), some (.inl 0)] : am_L).getD k_ none) _ (rfl) (⟨CE_AF hCc hEx (fun q k a b e => (u2_q (by omega)).trans ((LF_refl : LF J J) q k a b)), fun a f ha hf => (u2_k (by omega)).trans (((LF_refl : LF J J) _ _ (by decide) (by decide)).trans (hgo a f ha hf)), fun f hf => (by rw [u2_at]; by_cases e : f = x; (rw [if_pos (by omega), e, hg]); (rw [if_neg (by omega), (LF_refl : LF J J) _ _ (by decide) (by decide)]; exact hgx f (by omega))), AF_trans hfx (fun q k a b e => (u2_q (by omega)).trans ((LF_refl : LF J J) q k a b))⟩)
      · intro s e_x J hsx hvx
        obtain ⟨hEx, hgo, hgx, hfx⟩ := hvx
        refine (ex_4_3 (ex_0 ?_))
        refine ex_ic3 (fun hc14 => ?_) (fun hc14 => by exfalso; omega)
        refine (ex_10_2 ⟨by omega, by omega⟩ rfl (ex_28 ?_))
        exact hki (()) (fun k_ => ([some (.inr (.inr (some 116))), some (.inr (.inr (some c))), some (.inl ((i : Int) + 1)), some (.inl (5 : Int)), (e_x 4)] : am_L).getD k_ none) _ (rfl) (⟨hEx, fun a f ha hf => (by by_cases e : a = i; (rw [e]; exact hgx f hf); exact hgo a f (by omega) hf), hfx⟩)
    · intro s e_i J hsi hvi
      obtain ⟨hEi, hgi, hfi⟩ := hvi
      refine (ex_4_2 (ex_6_1 (ix_41i (v := (N : Int)) (cs_0 hS hCc) ((CC_n0 hEi.1).trans hN) ?_)))
      refine ex_ic3 (fun hc7 => ?_) (fun hc7 => by exfalso; omega)
      exact ex_56 ⟨_, rfl, hEi, hgi, hfi⟩
  obtain ⟨o, e, I1, rfl, h⟩ := am_doQ (as := [(.inr (.inr (some 116))), (.inr (.inr (some c)))]) (Nat.le_of_ble_eq_true rfl) rfl w
  exact ⟨I1, e, h⟩
def mw (g : Nat → Nat → Int) (bn : Nat → Int) (c t who : Nat) : Int := if who = 5 then bn t else if g c who = -1 ∨ t.testBit who = true then -1 else g c who + bn (t ||| 2 ^ who)
theorem k_mw_5 {d : Nat} {G : am_G} {I : Nat → Nat → Int} {P : Nat → Nat → Option Nat} (hS : ST G P) {g : Nat → Nat → Int} {bn : Nat → Int} {c1 t who : Nat} (hc : c1 < 6) (ht : t < 32) (hb : ∀ t, t < 32 → I 118 ((c1 + 1) * 32 + t) = bn t) (hg : ∀ f, f < 5 → I 117 (c1 * 5 + f) = g c1 f) (hbb : ∀ t, t < 32 → 0 ≤ bn t ∧ bn t ≤ 100) (hgb : ∀ f, f < 5 → -1 ≤ g c1 f ∧ g c1 f ≤ 9) : am_call am_B am_M (d + 1) 3 [(.inr (.inr (some 116))), (.inl (c1 : Int)), (.inl (t : Int)), (.inl 5)] (G, I, P) = some (some (.inl (mw g bn c1 t 5)), (G, I, P)) := by
  refine am_doL (L := [some (.inr (.inr (some 116))), some (.inl (c1 : Int)), some (.inl (t : Int)), some (.inl 5), none, none]) (Nat.le_of_ble_eq_true rfl) rfl ?_
  refine (ex_4_1 (ex_0 (ex_add ⟨by omega, by omega⟩ (ex_0 (ex_mul ⟨by omega, by omega⟩ (ex_7_4 rfl (ex_4_3 (ex_0 (ex_ic1 (fun hc => by exfalso; revert hc; decide) (fun _ => ?_))))))))))
  refine (ex_6_0 (ix_41r (sh_116 hS) (pt_116_2 hS) (ex_4_4 (ex_4_2 (ex_add ⟨by omega, by omega⟩ (ix_30 (j := (((c1 + 1) * 32) + t)) (v := (bn t)) (sh_118 hS) (by omega) (by omega) (by omega) (hb t ht) ?_))))))
  exact ex_53 rfl
theorem k_mw_f {d : Nat} {G : am_G} {I : Nat → Nat → Int} {P : Nat → Nat → Option Nat} (hS : ST G P) {g : Nat → Nat → Int} {bn : Nat → Int} {c1 t who : Nat} (hc : c1 < 6) (ht : t < 32) (hb : ∀ t, t < 32 → I 118 ((c1 + 1) * 32 + t) = bn t) (hg : ∀ f, f < 5 → I 117 (c1 * 5 + f) = g c1 f) (hbb : ∀ t, t < 32 → 0 ≤ bn t ∧ bn t ≤ 100) (hgb : ∀ f, f < 5 → -1 ≤ g c1 f ∧ g c1 f ≤ 9) (hw : who < 5) : am_call am_B am_M (d + 1) 3 [(.inr (.inr (some 116))), (.inl (c1 : Int)), (.inl (t : Int)), (.inl (who : Int))] (G, I, P) = some (some (.inl (mw g bn c1 t who)), (G, I, P)) := by
  have hor : t ||| 2 ^ who < 32 := Nat.or_lt_two_pow (n := 5) ht (Nat.pow_lt_pow_right (by decide) hw)
  have hgw := hgb who hw
  have hbw := hbb _ hor
  refine am_doL (L := [some (.inr (.inr (some 116))), some (.inl (c1 : Int)), some (.inl (t : Int)), some (.inl (who : Int)), none, none]) (Nat.le_of_ble_eq_true rfl) rfl ?_
  refine (ex_4_1 (ex_0 (ex_add ⟨by omega, by omega⟩ (ex_0 (ex_mul ⟨by omega, by omega⟩ (ex_7_4 rfl (ex_4_3 (ex_0 ?_))))))))
  refine ex_ic1 (fun hc10 => ?_) (fun hc10 => by exfalso; omega)
  refine (ex_6_0 (ix_41r (sh_116 hS) (pt_116_1 hS) (ex_4_1 (ex_0 (ex_mul ⟨by omega, by omega⟩ (ex_4_3 (ex_add ⟨by omega, by omega⟩ (ix_30 (j := ((c1 * 5) + who)) (v := (g c1 who)) (sh_117 hS) (by omega) (by omega) (by omega) (hg who hw) (ex_7_5 rfl (ex_4_5 (ex_0 ?_)))))))))))
  refine ex_ic0 (fun hc38 => ?_) (fun hc38 => ?_)
  · refine (ex_0 (ex_28 ?_))
    exact ex_53 (by unfold mw; rw [if_neg (by omega), if_pos (by first | exact Or.inl hc38 | exact Or.inr (Classical.byContradiction fun z => hc46 (tb_0 z)))])
  · refine (ex_4_2 (ex_4_3 (ex_11e (am_shr (a := t) (k := who) (by omega) (Nat.lt_trans ht (by decide))) (ex_0 (ex_11e (am_and (a := (t >>> who)) (b := 1) (Nat.lt_of_le_of_lt (Nat.shiftRight_le _ _) (Nat.lt_trans ht (by decide))) (by decide)) ?_)))))
    refine ex_if0 (fun hc46 => ?_) (fun hc46 => ?_)
    · refine (ex_4_5 (ex_6_0 (ix_41r (sh_116 hS) (pt_116_2 hS) (ex_4_4 (ex_4_2 (ex_0 (ex_4_3 (ex_11e (am_shl1 (k := who) (by omega)) (ex_11e (am_or (a := t) (b := (2 ^ who)) (Nat.lt_trans ht (by decide)) (Nat.pow_lt_pow_right (by decide) (by omega))) (ex_add ⟨by omega, by omega⟩ (ix_30 (j := (((c1 + 1) * 32) + (t ||| (2 ^ who)))) (v := (bn (t ||| 2 ^ who))) (sh_118 hS) (by omega) (by omega) (by omega) (hb _ hor) (ex_add ⟨by omega, by omega⟩ (ex_58 ?_)))))))))))))
      exact ex_53 (by unfold mw; rw [if_neg (by omega), if_neg (by rintro (z | z); exact hc38 z; rw [tb_1 z] at hc46; exact absurd hc46 (by decide))])
    · refine (ex_0 (ex_28 ?_))
      exact ex_53 (by unfold mw; rw [if_neg (by omega), if_pos (by first | exact Or.inl hc38 | exact Or.inr (Classical.byContradiction fun z => hc46 (tb_0 z)))])
