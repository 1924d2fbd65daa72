/-! ===== the class: the most that is answered ===== -/
def mxi (a b : Int) : Int := if a ≤ b then b else a
def BS (g : Nat → Nat → Int) (N : Nat) : Nat → Nat → Int
  | 0, _ => 0
  | k + 1, t => am_it (fun who top => mxi top (mw g (BS g N k) (N - 1 - k) t who)) 6 0 0
theorem mw_b {g : Nat → Nat → Int} {bn : Nat → Int} {c t who : Nat} {B : Int} (hg : ∀ c f, -1 ≤ g c f ∧ g c f ≤ 9) (hb : ∀ t, 0 ≤ bn t ∧ bn t ≤ B) : -1 ≤ mw g bn c t who ∧ mw g bn c t who ≤ B + 9 := by
  have h1 := hg c who
  have h2 := hb t
  have h3 := hb (t ||| 2 ^ who)
  unfold mw
  (repeat' split) <;> omega
theorem BS_b {g : Nat → Nat → Int} {N : Nat} (hg : ∀ c f, -1 ≤ g c f ∧ g c f ≤ 9) : ∀ (k t : Nat), 0 ≤ BS g N k t ∧ BS g N k t ≤ 9 * (k : Int)
  | 0, _ => ⟨Int.le_refl _, by show (0 : Int) ≤ 9 * ((0 : Nat) : Int); omega⟩
  | k + 1, t => by
    refine am_it_inv (f := fun who top => mxi top (mw g (BS g N k) (N - 1 - k) t who)) (inv := fun _ top => 0 ≤ top ∧ top ≤ 9 * ((k + 1 : Nat) : Int)) (N := 6) (fun i s hi h => ?_) 6 0 0 rfl ⟨by decide, by omega⟩
    have hk : ∀ t, 0 ≤ BS g N k t ∧ BS g N k t ≤ 9 * (k : Int) := fun t => BS_b hg k t
    have hm := mw_b (c := N - 1 - k) (t := t) (who := i) hg hk
    show 0 ≤ mxi s (mw g (BS g N k) (N - 1 - k) t i) ∧ mxi s (mw g (BS g N k) (N - 1 - k) t i) ≤ 9 * ((k + 1 : Nat) : Int)
    unfold mxi
    split <;> omega
theorem k_mw {d : Nat} {G : am_G} {I : Nat → Nat → Int} {P : Nat → Nat → Option Nat} (hS : ST G P) {g : Nat → Nat → Int} {bn : Nat → Int} {c1 t who : Nat} (hc : c1 < 6) (ht : t < 32) (hb : ∀ t, t < 32 → I 118 ((c1 + 1) * 32 + t) = bn t) (hg : ∀ f, f < 5 → I 117 (c1 * 5 + f) = g c1 f) (hbb : ∀ t, t < 32 → 0 ≤ bn t ∧ bn t ≤ 100) (hgb : ∀ f, f < 5 → -1 ≤ g c1 f ∧ g c1 f ≤ 9) (hw : who ≤ 5) : am_call am_B am_M (d + 1) 3 [.inr (.inr (some 116)), .inl (c1 : Int), .inl (t : Int), .inl (who : Int)] (G, I, P) = some (some (.inl (mw g bn c1 t who)), (G, I, P)) := by
  by_cases h : who = 5
  · subst h; exact k_mw_5 (who := 5) hS hc ht hb hg hbb hgb
  · exact k_mw_f hS hc ht hb hg hbb hgb (by omega)
theorem k_most {d : Nat} {G : am_G} {I : Nat → Nat → Int} {P : Nat → Nat → Option Nat} (hS : ST G P) {c : Nat} (hCc : CQ c) {ρ : Nat → Int} {n : Nat} {cl : Nat → Cl} (hE : CE G I P c ρ n cl) {N : Nat} (hN : ρ 0 = (N : Int)) (hBN : BarN n cl) : ∃ I1, am_call am_B am_M (d + 6) 1 [(.inr (.inr (some 116))), (.inr (.inr (some c)))] (G, I, P) = some (some (.inl (BS (gn ρ n cl) N N 0)), (G, I1, P)) ∧ (CE G I1 P c ρ n cl ∧ (∀ a f, a < N → f < 5 → I1 117 (a * 5 + f) = gn ρ n cl a f) ∧ (∀ k t, k ≤ N → t < 32 → I1 118 ((N - k) * 32 + t) = BS (gn ρ n cl) N k t) ∧ AF I I1) := by
  have h06 := RW_n0 hE.2.1
  have h15 := RW_n1 hE.2.1
  have hqc : c = 65 ∨ c = 93 ∨ c = 122 ∨ c = 139 ∨ c = 174 ∨ c = 191 := hCc
  have w : am_ex (am_call am_B am_M (d + 5)) (am_B 1) (am_B 1 0) [some (.inr (.inr (some 116))), some (.inr (.inr (some c))), none, none, none, none] [] (G, I, P) (fun o => ∃ I1, o = (some (.inl (BS (gn ρ n cl) N N 0)), (G, I1, P)) ∧ (CE G I1 P c ρ n cl ∧ (∀ a f, a < N → f < 5 → I1 117 (a * 5 + f) = gn ρ n cl a f) ∧ (∀ k t, k ≤ N → t < 32 → I1 118 ((N - k) * 32 + t) = BS (gn ρ n cl) N k t) ∧ AF I I1)) := by
    refine (ex_6_0 (ex_6_1 ?_))
    obtain ⟨JW, eW, hEW, hgW, hfW⟩ := k_weigh (d := d) hS hCc hE hN hBN
    refine (ix_46 (S' := []) rfl (sh_116 hS) eW rfl rfl (ex_0 (ex_7_2 rfl (ex_58 ?_))))
    refine ex_forR (b := 1) (σ := Unit) (32) (fun x s => s) (fun x s J => CE G J P c ρ n cl ∧ (∀ a f, a < N → f < 5 → J 117 (a * 5 + f) = gn ρ n cl a f) ∧ (∀ t, t < x → J 118 (N * 32 + t) = 0) ∧ AF I J) (fun x s e_x => [some (.inr (.inr (some 116))), some (.inr (.inr (some c))), some (.inl (x : Int)), none, none, none]) ?_ (32) (0) (()) (fun k_ => ([some (.inr (.inr (some 116))), some (.inr (.inr (some c))), some (.inl 0), none, none, none] : am_L).getD k_ none) (JW) (by omega) (⟨hEW, hgW, fun t ht => absurd ht (by omega), hfW⟩) rfl ?_
    · intro x s e_x J hix hvx hkx
      obtain ⟨hEx, hgx, hzx, hfx⟩ := hvx
      refine (ex_4_2 (ex_0 ?_))
      refine ex_ic3 (fun hc10 => by exfalso; omega) (fun hc10 => ?_)
      refine (ex_6_0 (ix_41r (sh_116 hS) (pt_116_2 hS) (ex_6_1 (ix_41i (v := (N : Int)) (cs_0 hS hCc) ((CC_n0 hEx.1).trans hN) (ex_0 (ex_mul ⟨by omega, by omega⟩ (ex_4_2 (ex_add ⟨by omega, by omega⟩ (ex_0 (ix_34 (j := ((N * 32) + x)) (sh_118 hS) (by omega) (by omega) (by omega) (ex_10_2 ⟨by omega, by omega⟩ rfl (ex_28 ?_))))))))))))
      exact hkx (()) (fun k_ => ([some (.inr (.inr (some 116))), some (.inr (.inr (some c))), some (.inl ((x : Int) + 1)), none, none, none] : am_L).getD k_ none) _ (rfl) (⟨CE_AF hCc hEx (fun q k a b e => u2_q (by omega)), fun a f ha hf => (u2_q (by decide)).trans (hgx a f ha hf), fun t ht => (by rw [u2_at]; by_cases e : t = x; (rw [if_pos (by omega)]); (rw [if_neg (by omega)]; exact hzx t (by omega))), AF_trans hfx (fun q k a b e => u2_q (by omega))⟩)
    · intro s e_x J hsx hvx
      obtain ⟨hEx, hgx, hzx, hfx⟩ := hvx
      refine (ex_4_2 (ex_0 ?_))
      refine ex_ic3 (fun hc10 => ?_) (fun hc10 => by exfalso; omega)
      refine (ex_6_1 (ix_41i (v := (N : Int)) (cs_0 hS hCc) ((CC_n0 hEx.1).trans hN) (ex_0 (ex_sub ⟨by omega, by omega⟩ (ex_7_2 rfl (ex_58 ?_))))))
      rw [show ((N : Int) - 1) = (N : Int) - 1 - ((0 : Nat) : Int) by omega]
      refine ex_forR (b := 4) (σ := Unit) (N) (fun i s => s) (fun i s J => CE G J P c ρ n cl ∧ (∀ a f, a < N → f < 5 → J 117 (a * 5 + f) = gn ρ n cl a f) ∧ (∀ k t, k ≤ i → t < 32 → J 118 ((N - k) * 32 + t) = BS (gn ρ n cl) N k t) ∧ AF I J) (fun i s e_i => [some (.inr (.inr (some 116))), some (.inr (.inr (some c))), some (.inl ((N : Int) - 1 - (i : Int))), (e_i 3), (e_i 4), (e_i 5)]) ?_ (N) (0) (()) (fun k_ => ([some (.inr (.inr (some 116))), some (.inr (.inr (some c))), some (.inl ((N : Int) - 1 - ((0 : Nat) : Int))), none, none, none] : am_L).getD k_ none) (J) (by omega) (⟨hEx, hgx, fun k t hk ht => (show J 118 ((N - k) * 32 + t) = BS (gn ρ n cl) N k t from (Nat.le_zero.mp hk) ▸ hzx t ht), hfx⟩) rfl ?_
      · intro i s e_i J hii hvi hki
        obtain ⟨hEi, hgi, htbi, hfi⟩ := hvi
        refine (ex_4_2 ?_)
        refine ex_if2 (fun hc42 => by exfalso; omega) (fun hc42 => ?_)
        rw [show (N : Int) - 1 - (i : Int) = ((N - 1 - i : Nat) : Int) by omega]
        refine (ex_0 (ex_7_3 rfl (ex_58 ?_)))
        refine ex_forR (b := 6) (σ := Unit) (32) (fun x s => s) (fun x s J => CE G J P c ρ n cl ∧ (∀ a f, a < N → f < 5 → J 117 (a * 5 + f) = gn ρ n cl a f) ∧ (∀ k t, k ≤ i → t < 32 → J 118 ((N - k) * 32 + t) = BS (gn ρ n cl) N k t) ∧ (∀ t, t < x → J 118 ((N - 1 - i) * 32 + t) = BS (gn ρ n cl) N (i + 1) t) ∧ AF I J) (fun x s e_x => [some (.inr (.inr (some 116))), some (.inr (.inr (some c))), some (.inl ((N - 1 - i : Nat) : Int)), some (.inl (x : Int)), (e_x 4), (e_x 5)]) ?_ (32) (0) (()) (fun k_ => ([some (.inr (.inr (some 116))), some (.inr (.inr (some c))), some (.inl ((N - 1 - i : Nat) : Int)), some (.inl 0), (e_i 4), (e_i 5)] : am_L).getD k_ none) (J) (by omega) (⟨hEi, hgi, htbi, fun t ht => absurd ht (by omega), hfi⟩) rfl ?_
        · intro x s e_x J hix hvx hkx
          obtain ⟨hEx, hgx, htb, htx, hfx⟩ := hvx
          refine (ex_4_3 (ex_0 ?_))
          refine ex_ic3 (fun hc50 => by exfalso; omega) (fun hc50 => ?_)
          refine (ex_0 (ex_7_4 rfl (ex_0 (ex_7_5 rfl (ex_58 ?_)))))
          refine ex_forH (b := 8) (σ := Int) (6) (fun who top => mxi top (mw (gn ρ n cl) (BS (gn ρ n cl) N i) (N - 1 - i) x who)) (fun who top => True) (fun who top e_who => [some (.inr (.inr (some 116))), some (.inr (.inr (some c))), some (.inl ((N - 1 - i : Nat) : Int)), some (.inl (x : Int)), some (.inl top), some (.inl (who : Int))]) (fun who top => (G, J, P)) ?_ ?_ (6) (0) (0) (fun k_ => ([some (.inr (.inr (some 116))), some (.inr (.inr (some c))), some (.inl ((N - 1 - i : Nat) : Int)), some (.inl (x : Int)), some (.inl 0), some (.inl 0)] : am_L).getD k_ none) (by omega) (trivial) rfl (rfl) ?_
          · intro who top hiwho hvwho
            exact trivial
          · intro who top e_who hiwho hvwho top' hswho hkwho
            refine (ex_4_5 (ex_0 ?_))
            refine ex_ic4 (fun hc62 => by exfalso; omega) (fun hc62 => ?_)
            refine (ex_4_4 (ex_6_0 (ex_4_2 (ex_4_3 (ex_4_5 (ix_46 (S' := [(.inl (mw (gn ρ n cl) (BS (gn ρ n cl) N i) (N - 1 - i) x who)), (.inl top)]) rfl (sh_116 hS) (k_mw (g := (gn ρ n cl)) (bn := BS (gn ρ n cl) N i) (c1 := (N - 1 - i)) (t := x) (who := who) hS (by omega) (by omega) (fun t ht => by rw [show N - 1 - i + 1 = N - i by omega]; exact htb i t (Nat.le_refl _) ht) (fun f hf => hgx _ f (by omega) hf) (fun t _ => by have := BS_b (N := N) (fun c f => gn_b (ρ := ρ) (n := n) (cl := cl) (c := c) (f := f)) i t; omega) (fun f _ => gn_b) (by omega)) rfl rfl (ex_max (v := (mxi top (mw (gn ρ n cl) (BS (gn ρ n cl) N i) (N - 1 - i) x who))) rfl rfl (ex_7_4 rfl (ex_10_5 ⟨by omega, by omega⟩ rfl (ex_28 ?_))))))))))
            rw [show (mxi top (mw (gn ρ n cl) (BS (gn ρ n cl) N i) (N - 1 - i) x who)) = top' from hswho.symm]
            exact hkwho (fun k_ => ([some (.inr (.inr (some 116))), some (.inr (.inr (some c))), some (.inl ((N - 1 - i : Nat) : Int)), some (.inl (x : Int)), some (.inl (mxi top (mw (gn ρ n cl) (BS (gn ρ n cl) N i) (N - 1 - i) x who))), some (.inl ((who : Int) + 1))] : am_L).getD k_ none)
          · intro top e_who hswho hvwho
            refine (ex_4_5 (ex_0 ?_))
            refine ex_ic4 (fun hc62 => ?_) (fun hc62 => by exfalso; omega)
            refine (ex_6_0 (ix_41r (sh_116 hS) (pt_116_2 hS) (ex_4_2 (ex_0 (ex_mul ⟨by omega, by omega⟩ (ex_4_3 (ex_add ⟨by omega, by omega⟩ (ex_4_4 (ix_34 (j := (((N - 1 - i) * 32) + x)) (sh_118 hS) (by omega) (by omega) (by omega) (ex_10_3 ⟨by omega, by omega⟩ rfl (ex_28 ?_)))))))))))
            exact hkx (()) (fun k_ => ([some (.inr (.inr (some 116))), some (.inr (.inr (some c))), some (.inl ((N - 1 - i : Nat) : Int)), some (.inl ((x : Int) + 1)), some (.inl top), some (.inl (6 : Int))] : am_L).getD k_ none) _ (rfl) (⟨CE_AF hCc hEx (fun q k a b e => u2_q (by omega)), fun a f ha hf => (u2_q (by decide)).trans (hgx a f ha hf), fun k t hk ht => (u2_k (by omega)).trans (htb k t hk ht), fun t ht => (by rw [u2_at]; by_cases e : t = x; (rw [if_pos (by omega), e]; exact hswho); (rw [if_neg (by omega)]; exact htx t (by omega))), AF_trans hfx (fun q k a b e => u2_q (by omega))⟩)
        · intro s e_x J hsx hvx
          obtain ⟨hEx, hgx, htb, htx, hfx⟩ := hvx
          refine (ex_4_3 (ex_0 ?_))
          refine ex_ic3 (fun hc50 => ?_) (fun hc50 => by exfalso; omega)
          refine (ex_10_2 ⟨by omega, by omega⟩ rfl (ex_28 ?_))
          rw [show ((N - 1 - i : Nat) : Int) + (-1) = (N : Int) - 1 - ((i + 1 : Nat) : Int) by omega]
          exact hki (()) (fun k_ => ([some (.inr (.inr (some 116))), some (.inr (.inr (some c))), some (.inl (((N - 1 - i : Nat) : Int) + (-1))), some (.inl (32 : Int)), (e_x 4), (e_x 5)] : am_L).getD k_ none) _ (rfl) (⟨hEx, hgx, fun k t hk ht => (by by_cases e : k = i + 1; (rw [e, show N - (i + 1) = N - 1 - i by omega]; exact htx t ht); exact htb k t (by omega) ht), hfx⟩)
      · intro s e_i J hsi hvi
        obtain ⟨hEi, hgi, htbi, hfi⟩ := hvi
        have hr0 : J 118 0 = BS (gn ρ n cl) N N 0 := by have := htbi N 0 (Nat.le_refl _) (by decide); rw [show (N - N) * 32 + 0 = 0 by omega] at this; exact this
        refine (ex_4_2 ?_)
        refine ex_if2 (fun hc42 => ?_) (fun hc42 => by exfalso; omega)
        refine (ex_6_0 (ix_41r (sh_116 hS) (pt_116_2 hS) (ex_0 (ix_30 (j := 0) (v := (BS (gn ρ n cl) N N 0)) (sh_118 hS) (by decide) (by decide) rfl hr0 ?_))))
        exact ex_53 ⟨_, rfl, hEi, hgi, htbi, hfi⟩
  obtain ⟨o, e, I1, rfl, h⟩ := am_doQ (as := [(.inr (.inr (some 116))), (.inr (.inr (some c)))]) (Nat.le_of_ble_eq_true rfl) rfl w
  exact ⟨I1, e, h⟩
