/-! ===== the class: an order is run once ===== -/
theorem k_a0n {d : Nat} {G : am_G} {I : Nat → Nat → Int} {P : Nat → Nat → Option Nat} (hS : ST G P) {ρ : Nat → Int} {n : Nat} {cl : Nat → Cl} (hE : CE G I P 65 ρ n cl) (hBN : BarN n cl) {a b : Int} (h : oact ρ n cl 0 a b = none) : ∃ (x : Int) (I1 : Nat → Nat → Int), am_call am_B am_M (d + 5) 22 [(.inr (.inr (some 91))), (.inl a), (.inl b)] (G, I, P) = some (some (.inl x), (G, I1, P)) ∧ x < 0 ∧ -10 ≤ x ∧ LF I I1 := by
  by_cases c : (0 ≤ a ∧ a < ρ 0) ∧ (0 ≤ b ∧ b < ρ 1)
  · have hc : ¬ m_can ρ n cl a.toNat b.toNat := fun z => by rw [oact_0t ⟨c, z⟩] at h; cases h
    obtain ⟨I1, e, f⟩ := k_ring_n_c (d := d) hS hE (c1 := a.toNat) (f := b.toNat) (by omega) (by omega) hBN hc
    rw [Int.toNat_of_nonneg c.1.1, Int.toNat_of_nonneg c.2.1] at e
    exact ⟨_, I1, e, by decide, by decide, f⟩
  · exact ⟨_, I, k_ring_n_n hS hE c, by decide, by decide, LF_refl⟩
theorem k_a0s {d : Nat} {G : am_G} {I : Nat → Nat → Int} {P : Nat → Nat → Option Nat} (hS : ST G P) {ρ : Nat → Int} {n : Nat} {cl : Nat → Cl} (hE : CE G I P 65 ρ n cl) (hBN : BarN n cl) {lg : List De} (hL : CLg I lg) {a b : Int} {q : (Nat → Int) × De × Int} (h : oact ρ n cl 0 a b = some q) : ∃ I1, am_call am_B am_M (d + 5) 22 [(.inr (.inr (some 91))), (.inl a), (.inl b)] (G, I, P) = some (some (.inl q.2.2), (G, I1, P)) ∧ CE G I1 P 65 q.1 n cl ∧ CLg I1 (kpl q.2.1 lg) ∧ DFK I I1 65 84 := by
  obtain ⟨l1, l2, nx, l3, l4, l5⟩ := hL
  have n1 := RW_n1 hE.2.1
  rcases oact_v (by decide) h with ⟨_, c, rfl⟩ | ⟨e, _⟩ | ⟨e, _⟩ | ⟨e, _⟩
  · have hb5 : b.toNat < 5 := by omega
    have e1 : ((a.toNat : Nat) : Int) = a := Int.toNat_of_nonneg c.1.1.1
    have e2 : ((b.toNat : Nat) : Int) = b := Int.toNat_of_nonneg c.1.2.1
    rcases RW_en hE.2.1 b.toNat hb5 with he | he
    · obtain ⟨I1, w1, w2, w3, w4⟩ := k_ring_n_0 (d := d) hS hE (c1 := a.toNat) (f := b.toNat) (by omega) (by omega) hBN c.2 he l4 l3 l2 l1
      have w3 := CLg_deed l1 l3 l5 w3
      rw [e1, e2] at w1
      refine ⟨I1, ?_, ?_, ?_, w4⟩
      · rw [w1]; show _ = some (some (Sum.inl (m_ringv ρ n cl a.toNat b.toNat)), _); unfold m_ringv; rw [if_neg (by omega)]
      · show CE G I1 P 65 (m_ringr ρ n cl a.toNat b.toNat) n cl; unfold m_ringr; rw [if_neg (by omega)]; exact w2
      · show CLg I1 (kpl (rgE ρ b.toNat) lg); unfold rgE; rw [if_neg (by omega)]; exact w3
    · obtain ⟨I1, w1, w2, w3, w4⟩ := k_ring_n_1 (d := d) hS hE (c1 := a.toNat) (f := b.toNat) (by omega) (by omega) hBN c.2 he l4 l3 l2 l1
      have w3 := CLg_deed l1 l3 l5 w3
      rw [e1, e2] at w1
      refine ⟨I1, ?_, ?_, ?_, w4⟩
      · rw [w1]; show _ = some (some (Sum.inl (m_ringv ρ n cl a.toNat b.toNat)), _); unfold m_ringv; rw [if_pos he]
      · show CE G I1 P 65 (m_ringr ρ n cl a.toNat b.toNat) n cl; unfold m_ringr; rw [if_pos he]; exact w2
      · show CLg I1 (kpl (rgE ρ b.toNat) lg); unfold rgE; rw [if_pos he]; exact w3
  · exact absurd e (by decide)
  · exact absurd e (by decide)
  · exact absurd e (by decide)
theorem k_a1n {d : Nat} {G : am_G} {I : Nat → Nat → Int} {P : Nat → Nat → Option Nat} (hS : ST G P) {ρ : Nat → Int} {n : Nat} {cl : Nat → Cl} (hE : CE G I P 65 ρ n cl) {a b : Int} (h : oact ρ n cl 1 a b = none) : ∃ (x : Int) (I1 : Nat → Nat → Int), am_call am_B am_M (d + 2) 23 [(.inr (.inr (some 91))), (.inl a)] (G, I, P) = some (some (.inl x), (G, I1, P)) ∧ x < 0 ∧ -10 ≤ x ∧ LF I I1 := by
  have c : ¬ (0 ≤ a ∧ a < ρ 1) := fun z => by rw [oact_1t z] at h; cases h
  exact ⟨_, I, k_engage_n_n hS hE c, by decide, by decide, LF_refl⟩
theorem k_a1s {d : Nat} {G : am_G} {I : Nat → Nat → Int} {P : Nat → Nat → Option Nat} (hS : ST G P) {ρ : Nat → Int} {n : Nat} {cl : Nat → Cl} (hE : CE G I P 65 ρ n cl) {lg : List De} (hL : CLg I lg) {a b : Int} {q : (Nat → Int) × De × Int} (h : oact ρ n cl 1 a b = some q) : ∃ I1, am_call am_B am_M (d + 2) 23 [(.inr (.inr (some 91))), (.inl a)] (G, I, P) = some (some (.inl q.2.2), (G, I1, P)) ∧ CE G I1 P 65 q.1 n cl ∧ CLg I1 (kpl q.2.1 lg) ∧ DFK I I1 65 84 := by
  obtain ⟨l1, l2, nx, l3, l4, l5⟩ := hL
  rcases oact_v (by decide) h with ⟨e, _⟩ | ⟨_, c, rfl⟩ | ⟨e, _⟩ | ⟨e, _⟩
  · exact absurd e (by decide)
  · obtain ⟨I1, w1, w2, w3, w4⟩ := k_engage_n (d := d) hS hE (f := a.toNat) (by omega) l4 l3 l2 l1
    have w3 := CLg_deed l1 l3 l5 w3
    rw [Int.toNat_of_nonneg c.1] at w1 w3
    exact ⟨I1, w1, w2, w3, w4⟩
  · exact absurd e (by decide)
  · exact absurd e (by decide)
theorem k_a2n {d : Nat} {G : am_G} {I : Nat → Nat → Int} {P : Nat → Nat → Option Nat} (hS : ST G P) {ρ : Nat → Int} {n : Nat} {cl : Nat → Cl} (hE : CE G I P 65 ρ n cl) {a b : Int} (h : oact ρ n cl 2 a b = none) : ∃ (x : Int) (I1 : Nat → Nat → Int), am_call am_B am_M (d + 3) 24 [(.inr (.inr (some 91))), (.inl a)] (G, I, P) = some (some (.inl x), (G, I1, P)) ∧ x < 0 ∧ -10 ≤ x ∧ LF I I1 := by
  have c : ¬ (0 ≤ a ∧ a < 6) := fun z => by rw [oact_2t z] at h; cases h
  exact ⟨_, I, k_smash_n_n c, by decide, by decide, LF_refl⟩
theorem k_a2s {d : Nat} {G : am_G} {I : Nat → Nat → Int} {P : Nat → Nat → Option Nat} (hS : ST G P) {ρ : Nat → Int} {n : Nat} {cl : Nat → Cl} (hE : CE G I P 65 ρ n cl) {lg : List De} (hL : CLg I lg) {a b : Int} {q : (Nat → Int) × De × Int} (h : oact ρ n cl 2 a b = some q) : ∃ I1, am_call am_B am_M (d + 3) 24 [(.inr (.inr (some 91))), (.inl a)] (G, I, P) = some (some (.inl q.2.2), (G, I1, P)) ∧ CE G I1 P 65 q.1 n cl ∧ CLg I1 (kpl q.2.1 lg) ∧ DFK I I1 65 84 := by
  obtain ⟨l1, l2, nx, l3, l4, l5⟩ := hL
  rcases oact_v (by decide) h with ⟨e, _⟩ | ⟨e, _⟩ | ⟨_, c, rfl⟩ | ⟨e, _⟩
  · exact absurd e (by decide)
  · exact absurd e (by decide)
  · obtain ⟨I1, w1, w2, w3, w4⟩ := k_smash_n (d := d) hS hE (b := a.toNat) (by omega) l4 l3 l2 l1
    have w3 := CLg_deed l1 l3 l5 w3
    rw [Int.toNat_of_nonneg c.1] at w1 w3
    exact ⟨I1, w1, w2, w3, w4⟩
  · exact absurd e (by decide)
theorem k_a3n {d : Nat} {G : am_G} {I : Nat → Nat → Int} {P : Nat → Nat → Option Nat} (hS : ST G P) {ρ : Nat → Int} {n : Nat} {cl : Nat → Cl} (hE : CE G I P 65 ρ n cl) (ht1 : I 1 0 = 999) {a b : Int} (h : oact ρ n cl 3 a b = none) : ∃ (x : Int) (I1 : Nat → Nat → Int), am_call am_B am_M (d + 5) 25 [(.inr (.inr (some 91)))] (G, I, P) = some (some (.inl x), (G, I1, P)) ∧ x < 0 ∧ -10 ≤ x ∧ LF I I1 := by
  have c : ¬ ρ 5 < 999 := fun z => by rw [oact_3t z] at h; cases h
  exact ⟨_, I, k_night_n_n hS hE c ht1, by decide, by decide, LF_refl⟩
theorem k_a3s {d : Nat} {G : am_G} {I : Nat → Nat → Int} {P : Nat → Nat → Option Nat} (hS : ST G P) {ρ : Nat → Int} {n : Nat} {cl : Nat → Cl} (hE : CE G I P 65 ρ n cl) (ht1 : I 1 0 = 999) {lg : List De} (hL : CLg I lg) {a b : Int} {q : (Nat → Int) × De × Int} (h : oact ρ n cl 3 a b = some q) : ∃ I1, am_call am_B am_M (d + 5) 25 [(.inr (.inr (some 91)))] (G, I, P) = some (some (.inl q.2.2), (G, I1, P)) ∧ CE G I1 P 65 q.1 n cl ∧ CLg I1 (kpl q.2.1 lg) ∧ DFK I I1 65 84 := by
  obtain ⟨l1, l2, nx, l3, l4, l5⟩ := hL
  rcases oact_v (by decide) h with ⟨e, _⟩ | ⟨e, _⟩ | ⟨e, _⟩ | ⟨_, c, rfl⟩
  · exact absurd e (by decide)
  · exact absurd e (by decide)
  · exact absurd e (by decide)
  · obtain ⟨I1, w1, w2, w3, w4⟩ := k_night_n (d := d) hS hE c ht1 l4 l3 l2 l1
    exact ⟨I1, w1, w2, CLg_deed l1 l3 l5 w3, w4⟩
/-- the draft holds the orders -/
def DRF (I : Nat → Nat → Int) (m z : Nat) (c : Nat → Oc) : Prop := I 162 5 = (m : Int) ∧ m ≤ 12 ∧ I 162 7 = (z : Int) ∧ z ≤ 436 ∧ (∀ k, k < z → 0 ≤ I 168 k ∧ I 168 k ≤ 100000) ∧ (∀ j, j < m → DC true I z j (c j))
theorem DRF_fr {I J : Nat → Nat → Int} {m z : Nat} {c : Nat → Oc} (h : DRF I m z c) (hf : ∀ q k, 162 ≤ q → q ≤ 168 → J q k = I q k) : DRF J m z c := by
  obtain ⟨h1, h2, h3, h4, h5, h6⟩ := h
  refine ⟨(hf _ _ (by decide) (by decide)).trans h1, h2, (hf _ _ (by decide) (by decide)).trans h3, h4, fun k hk => by rw [hf _ _ (by decide) (by decide)]; exact h5 k hk, fun j hj => DC_mono (h6 j hj) (fun q a b => hf q j (by omega) (by omega)) (fun k _ => hf _ _ (by decide) (by decide)) (Nat.le_refl _)⟩
theorem k_val {d : Nat} {G : am_G} {I : Nat → Nat → Int} {P : Nat → Nat → Option Nat} (hS : ST G P) {m z : Nat} {c : Nat → Oc} (hD : DRF I m z c) {w : Nat → Int} (hw : ∀ k, k < 16 → I 114 k = w k) (hok : okw w) {x : Int} {f : Fn} (hO : OF true (I 168) z x (some f)) : ∃ (a : Nat) (r : Nat → Int), x = (a : Int) ∧ am_call am_B am_M (d + 2) 96 [.inr (.inr (some 162)), .inl (a : Int), .inr (.inr (some 114)), .inr (.inr (some 115))] (G, I, P) = some (some (.inl ((f w).getD (-2000000000))), (G, am_u1 I 115 r, P)) ∧ (∀ v, f w = some v → rkb v) := by
  obtain ⟨a, e, h1, h2, h3, h4, h5, h6⟩ := hO
  obtain ⟨d1, d2, d3, d4, d5, d6⟩ := hD
  have hcode : ∀ k, k < z → I 168 k = ((tlI (I 168) k * 16 + sgI (I 168) k : Nat) : Int) ∧ sgI (I 168) k < 16 ∧ tlI (I 168) k < 100000000 := fun k hk => by
    have := d5 k hk
    unfold sgI tlI
    refine ⟨by omega, by omega, by omega⟩
  obtain ⟨r, hr⟩ := k_value (d := d) (G := G) (P := P) (I := I) (t := 162) (wq := 114) (sq := 115) (sg := sgI (I 168)) (tl := tlI (I 168)) (w := w) (last := e) (sh_162 hS) (pt_162_6 hS) (sh_168 hS) d3 (by omega) (by decide) (sh_114 hS) (sh_115 hS) (by decide) (by decide) (by decide) hcode hw (by decide) h4 (by unfold sgI; rw [h3]; rfl) (by have := h2.1; omega) (h2.2.2 (I 168) (fun _ _ _ => rfl) w hok) h5
  exact ⟨a, r, h1, hr, h6 w hok⟩
def ov (o : Option Fn) (w : Nat → Int) : Int := (oone o w).getD (-2000000000)
/-- what an order leaves alone -/
def OFK (I J : Nat → Nat → Int) : Prop := ∀ q k, ¬ (65 ≤ q ∧ q ≤ 80) → ¬ (84 ≤ q ∧ q ≤ 87) → ¬ q = 89 → ¬ q = 90 → ¬ q = 114 → ¬ q = 115 → ¬ (q = 92 ∧ (k = 5 ∨ k = 6)) → J q k = I q k
theorem OFK_refl {I : Nat → Nat → Int} : OFK I I := fun _ _ _ _ _ _ _ _ _ => rfl
theorem OFK_trans {I J K : Nat → Nat → Int} (h : OFK I J) (h2 : OFK J K) : OFK I K := fun q k a b c d e f g => (h2 q k a b c d e f g).trans (h q k a b c d e f g)
def K5 (I K : Nat → Nat → Int) : Prop := ∀ q k, ¬ q = 115 → K q k = I q k
/-- what is known of the class while orders run -/
def KOI (G : am_G) (P : Nat → Nat → Option Nat) (J : Nat → Nat → Int) (n : Nat) (cl : Nat → Cl) (z : Od) : Prop := CE G J P 65 z.1.1 n cl ∧ CLg J z.1.2 ∧ J 92 5 = z.2.1 ∧ J 92 6 = z.2.2
theorem KOI_5 {G : am_G} {P : Nat → Nat → Option Nat} {I J : Nat → Nat → Int} {n : Nat} {cl : Nat → Cl} {z : Od} (h : KOI G P I n cl z) (hf : ∀ q k, ¬ q = 114 → ¬ q = 115 → J q k = I q k) : KOI G P J n cl z := by
  obtain ⟨a, b, c, e⟩ := h
  exact ⟨CE_set a (CC_fr a.1 (fun q k h1 h2 _ => hf q k (by omega) (by omega))) a.2.1 rfl (fun q k h => hf q k (by omega) (by omega)), CLg_fr b (fun q k h1 h2 => hf q k (by omega) (by omega)), (hf _ _ (by decide) (by decide)).trans c, (hf _ _ (by decide) (by decide)).trans e⟩
theorem k_sm1_n {d : Nat} {G : am_G} {I : Nat → Nat → Int} {P : Nat → Nat → Option Nat} {Q : am_O → Prop} (hS : ST G P) {m zz i : Nat} {c : Nat → Oc} (hD : DRF I m zz c) {w : Nat → Int} (hw : ∀ k, k < 16 → I 114 k = w k) (hok : okw w) (hi : i < m) (hk : ∀ K, K5 I K → am_ex (am_call am_B am_M (d + 6)) (am_B 51) (am_B 51 6) [some (.inr (.inr (some 92))), some (.inr (.inr (some 162))), some (.inl (i : Int)), none, none, none] [.inl (ov (c i).2.1 w)] (G, K, P) Q) (ho : (c i).2.1 = none) : am_ex (am_call am_B am_M (d + 6)) (am_B 51) (am_B 51 3) [some (.inr (.inr (some 92))), some (.inr (.inr (some 162))), some (.inl (i : Int)), none, none, none] [] (G, I, P) Q := by
  have hm12 := hD.2.1
  obtain ⟨dd1, dd2, dd3, dd4, dd5, dd6⟩ := hD.2.2.2.2.2 i hi
  refine (ex_6_1 (ix_41r (sh_162 hS) (pt_162_1 hS) (ex_4_2 (ix_30 (j := i) (v := (-1)) (sh_164 hS) (by omega) (by omega) (by omega) (by rw [ho] at dd3; exact dd3) (ex_0 (ex_ic1 (fun hc => by exfalso; revert hc; decide) (fun _ => ?_)))))))
  refine (ex_0 (ex_28 ?_))
  rw [show ov (c i).2.1 w = 0 by rw [ho]; rfl] at hk; exact hk I (fun _ _ _ => rfl)
theorem k_sm1_s {d : Nat} {G : am_G} {I : Nat → Nat → Int} {P : Nat → Nat → Option Nat} {Q : am_O → Prop} (hS : ST G P) {m zz i : Nat} {c : Nat → Oc} (hD : DRF I m zz c) {w : Nat → Int} (hw : ∀ k, k < 16 → I 114 k = w k) (hok : okw w) (hi : i < m) (hk : ∀ K, K5 I K → am_ex (am_call am_B am_M (d + 6)) (am_B 51) (am_B 51 6) [some (.inr (.inr (some 92))), some (.inr (.inr (some 162))), some (.inl (i : Int)), none, none, none] [.inl (ov (c i).2.1 w)] (G, K, P) Q) {f_ : Fn} (ho : (c i).2.1 = some f_) : am_ex (am_call am_B am_M (d + 6)) (am_B 51) (am_B 51 3) [some (.inr (.inr (some 92))), some (.inr (.inr (some 162))), some (.inl (i : Int)), none, none, none] [] (G, I, P) Q := by
  have hm12 := hD.2.1
  obtain ⟨dd1, dd2, dd3, dd4, dd5, dd6⟩ := hD.2.2.2.2.2 i hi
  rw [ho] at dd3
  obtain ⟨a_, r_, hx, eV, hV⟩ := k_val (d := d + 4) hS hD hw hok dd3
  refine (ex_6_1 (ix_41r (sh_162 hS) (pt_162_1 hS) (ex_4_2 (ix_30 (j := i) (v := (a_ : Int)) (sh_164 hS) (by omega) (by omega) (by omega) hx (ex_0 ?_)))))
  refine ex_ic1 (fun hc45 => ?_) (fun hc45 => by exfalso; omega)
  refine (ex_6_1 (ex_6_1 (ix_41r (sh_162 hS) (pt_162_1 hS) (ex_4_2 (ix_30 (j := i) (v := (a_ : Int)) (sh_164 hS) (by omega) (by omega) (by omega) hx (ex_6_0 (ix_41r (sh_92 hS) (pt_92_3 hS) (ex_6_0 (ix_41r (sh_92 hS) (pt_92_4 hS) (ix_46 (S' := [(.inl ((f_ w).getD (-2000000000)))]) rfl (sh_162 hS) eV rfl rfl (ex_58 ?_)))))))))))
  rw [show ov (c i).2.1 w = (f_ w).getD (-2000000000) by rw [ho]; rfl] at hk; exact hk _ (fun q k h => u1_qk h)
theorem k_sm1 {d : Nat} {G : am_G} {I : Nat → Nat → Int} {P : Nat → Nat → Option Nat} {Q : am_O → Prop} (hS : ST G P) {m zz i : Nat} {c : Nat → Oc} (hD : DRF I m zz c) {w : Nat → Int} (hw : ∀ k, k < 16 → I 114 k = w k) (hok : okw w) (hi : i < m) (hk : ∀ K, K5 I K → am_ex (am_call am_B am_M (d + 6)) (am_B 51) (am_B 51 6) [some (.inr (.inr (some 92))), some (.inr (.inr (some 162))), some (.inl (i : Int)), none, none, none] [.inl (ov (c i).2.1 w)] (G, K, P) Q) : am_ex (am_call am_B am_M (d + 6)) (am_B 51) (am_B 51 3) [some (.inr (.inr (some 92))), some (.inr (.inr (some 162))), some (.inl (i : Int)), none, none, none] [] (G, I, P) Q := by
  cases ho : (c i).2.1 with
  | none => exact k_sm1_n hS hD hw hok hi hk ho
  | some f_ => exact k_sm1_s hS hD hw hok hi hk ho
theorem k_sm2_n {x1 : Int} {d : Nat} {G : am_G} {I : Nat → Nat → Int} {P : Nat → Nat → Option Nat} {Q : am_O → Prop} (hS : ST G P) {m zz i : Nat} {c : Nat → Oc} (hD : DRF I m zz c) {w : Nat → Int} (hw : ∀ k, k < 16 → I 114 k = w k) (hok : okw w) (hi : i < m) (hk : ∀ K, K5 I K → am_ex (am_call am_B am_M (d + 6)) (am_B 51) (am_B 51 9) [some (.inr (.inr (some 92))), some (.inr (.inr (some 162))), some (.inl (i : Int)), some (.inl x1), none, none] [.inl (ov (c i).2.2.1 w)] (G, K, P) Q) (ho : (c i).2.2.1 = none) : am_ex (am_call am_B am_M (d + 6)) (am_B 51) (am_B 51 6) [some (.inr (.inr (some 92))), some (.inr (.inr (some 162))), some (.inl (i : Int)), none, none, none] [(.inl x1)] (G, I, P) Q := by
  have hm12 := hD.2.1
  obtain ⟨dd1, dd2, dd3, dd4, dd5, dd6⟩ := hD.2.2.2.2.2 i hi
  refine (ex_7_3 rfl (ex_6_1 (ix_41r (sh_162 hS) (pt_162_2 hS) (ex_4_2 (ix_30 (j := i) (v := (-1)) (sh_165 hS) (by omega) (by omega) (by omega) (by rw [ho] at dd4; exact dd4) (ex_0 (ex_ic1 (fun hc => by exfalso; revert hc; decide) (fun _ => ?_))))))))
  refine (ex_0 (ex_28 ?_))
  rw [show ov (c i).2.2.1 w = 0 by rw [ho]; rfl] at hk; exact hk I (fun _ _ _ => rfl)
theorem k_sm2_s {x1 : Int} {d : Nat} {G : am_G} {I : Nat → Nat → Int} {P : Nat → Nat → Option Nat} {Q : am_O → Prop} (hS : ST G P) {m zz i : Nat} {c : Nat → Oc} (hD : DRF I m zz c) {w : Nat → Int} (hw : ∀ k, k < 16 → I 114 k = w k) (hok : okw w) (hi : i < m) (hk : ∀ K, K5 I K → am_ex (am_call am_B am_M (d + 6)) (am_B 51) (am_B 51 9) [some (.inr (.inr (some 92))), some (.inr (.inr (some 162))), some (.inl (i : Int)), some (.inl x1), none, none] [.inl (ov (c i).2.2.1 w)] (G, K, P) Q) {f_ : Fn} (ho : (c i).2.2.1 = some f_) : am_ex (am_call am_B am_M (d + 6)) (am_B 51) (am_B 51 6) [some (.inr (.inr (some 92))), some (.inr (.inr (some 162))), some (.inl (i : Int)), none, none, none] [(.inl x1)] (G, I, P) Q := by
  have hm12 := hD.2.1
  obtain ⟨dd1, dd2, dd3, dd4, dd5, dd6⟩ := hD.2.2.2.2.2 i hi
  rw [ho] at dd4
  obtain ⟨a_, r_, hx, eV, hV⟩ := k_val (d := d + 4) hS hD hw hok dd4
  refine (ex_7_3 rfl (ex_6_1 (ix_41r (sh_162 hS) (pt_162_2 hS) (ex_4_2 (ix_30 (j := i) (v := (a_ : Int)) (sh_165 hS) (by omega) (by omega) (by omega) hx (ex_0 ?_))))))
  refine ex_ic1 (fun hc78 => ?_) (fun hc78 => by exfalso; omega)
  refine (ex_6_1 (ex_6_1 (ix_41r (sh_162 hS) (pt_162_2 hS) (ex_4_2 (ix_30 (j := i) (v := (a_ : Int)) (sh_165 hS) (by omega) (by omega) (by omega) hx (ex_6_0 (ix_41r (sh_92 hS) (pt_92_3 hS) (ex_6_0 (ix_41r (sh_92 hS) (pt_92_4 hS) (ix_46 (S' := [(.inl ((f_ w).getD (-2000000000)))]) rfl (sh_162 hS) eV rfl rfl (ex_58 ?_)))))))))))
  rw [show ov (c i).2.2.1 w = (f_ w).getD (-2000000000) by rw [ho]; rfl] at hk; exact hk _ (fun q k h => u1_qk h)
theorem k_sm2 {d : Nat} {G : am_G} {I : Nat → Nat → Int} {P : Nat → Nat → Option Nat} {Q : am_O → Prop} (hS : ST G P) {m zz i : Nat} {c : Nat → Oc} (hD : DRF I m zz c) {w : Nat → Int} (hw : ∀ k, k < 16 → I 114 k = w k) (hok : okw w) (hi : i < m) {x1 : Int} (hk : ∀ K, K5 I K → am_ex (am_call am_B am_M (d + 6)) (am_B 51) (am_B 51 9) [some (.inr (.inr (some 92))), some (.inr (.inr (some 162))), some (.inl (i : Int)), some (.inl x1), none, none] [.inl (ov (c i).2.2.1 w)] (G, K, P) Q) : am_ex (am_call am_B am_M (d + 6)) (am_B 51) (am_B 51 6) [some (.inr (.inr (some 92))), some (.inr (.inr (some 162))), some (.inl (i : Int)), none, none, none] [.inl x1] (G, I, P) Q := by
  cases ho : (c i).2.2.1 with
  | none => exact k_sm2_n hS hD hw hok hi hk ho
  | some f_ => exact k_sm2_s hS hD hw hok hi hk ho
theorem k_t12_0n {d : Nat} {G : am_G} {I : Nat → Nat → Int} {P : Nat → Nat → Option Nat} {Q : am_O → Prop} (hS : ST G P) {n m zz i : Nat} {cl : Nat → Cl} {c : Nat → Oc} {z : Od} (hD : DRF I m zz c) (hi : i < m) (hI : KOI G P I n cl z) (hBN : BarN n cl) (ht1 : I 1 0 = 999) (hdn : 0 ≤ z.2.1 ∧ z.2.1 ≤ 1000) (hlt : -1 ≤ z.2.2 ∧ z.2.2 ≤ 1000) {a b : Int} (h5 : z.1.1 5 ≤ 999) (hv : (c i).1 = 0) (hq : oact z.1.1 n cl 0 a b = none) (hQ0 : ∀ K, OFK I K → Q (some (.inl 0), (G, K, P))) : am_ex (am_call am_B am_M (d + 6)) (am_B 51) (am_B 51 12) [some (.inr (.inr (some 92))), some (.inr (.inr (some 162))), some (.inl (i : Int)), some (.inl a), some (.inl b), none] [] (G, I, P) Q := by
  have hm12 := hD.2.1
  obtain ⟨dd1, dd2, dd3, dd4, dd5, dd6⟩ := hD.2.2.2.2.2 i hi
  refine (ex_6_1 (ix_41r (sh_162 hS) (pt_162_0 hS) (ex_4_2 (ix_30 (j := i) (v := 0) (sh_163 hS) (by omega) (by omega) (by omega) (dd1.trans (by rw [hv]; rfl)) (ex_29i 0 rfl rfl (ex_6_0 (ix_41r (sh_92 hS) (pt_92_0 hS) (ex_4_3 (ex_4_4 ?_)))))))))
  obtain ⟨xr, J, eJ, hx0, hx1, hJ⟩ := k_a0n (d := d + 1) hS hI.1 hBN (a := a) (b := b) hq
  refine (ix_46 (S' := [(.inl xr)]) rfl (sh_91 hS) eJ rfl rfl (ex_7_5 rfl (ex_6_0 (ex_4_5 (ix_42i (sh_92 hS) (ex_28 (ex_6_0 (ex_22 rfl (ix_41i (v := z.2.1) (sh_92 hS) ((u2_k (by decide)).trans ((hJ 92 5 (by decide) (by decide)).trans hI.2.2.1)) (ex_0 (ex_add ⟨by omega, by omega⟩ (ix_42i (sh_92 hS) (ex_4_5 ?_)))))))))))))
  refine ex_if2 (fun hc220 => ?_) (fun hc220 => by exfalso; omega)
  refine (ex_0 (ex_58 ?_))
  exact ex_57 (by decide) (hQ0 _ (fun q k a1 a2 a3 a4 a5 a6 a7 => (u2_o (by omega)).trans ((u2_o (by omega)).trans (hJ q k a3 a4))))
theorem k_t12_0s {d : Nat} {G : am_G} {I : Nat → Nat → Int} {P : Nat → Nat → Option Nat} {Q : am_O → Prop} (hS : ST G P) {n m zz i : Nat} {cl : Nat → Cl} {c : Nat → Oc} {z : Od} (hD : DRF I m zz c) (hi : i < m) (hI : KOI G P I n cl z) (hBN : BarN n cl) (ht1 : I 1 0 = 999) (hdn : 0 ≤ z.2.1 ∧ z.2.1 ≤ 1000) (hlt : -1 ≤ z.2.2 ∧ z.2.2 ≤ 1000) {a b : Int} (h5 : z.1.1 5 ≤ 999) (hv : (c i).1 = 0) {q : (Nat → Int) × De × Int} (hq : oact z.1.1 n cl 0 a b = some q) (hQ1 : ∀ K z2, ogo n cl (c i).1 z (some a) (some b) = some z2 → KOI G P K n cl z2 → OFK I K → Q (some (.inl 1), (G, K, P))) : am_ex (am_call am_B am_M (d + 6)) (am_B 51) (am_B 51 12) [some (.inr (.inr (some 92))), some (.inr (.inr (some 162))), some (.inl (i : Int)), some (.inl a), some (.inl b), none] [] (G, I, P) Q := by
  have hm12 := hD.2.1
  obtain ⟨dd1, dd2, dd3, dd4, dd5, dd6⟩ := hD.2.2.2.2.2 i hi
  have hqa := (oact_ok (by decide) hI.1.2.1 h5 hq).2.2.2.2.1
  refine (ex_6_1 (ix_41r (sh_162 hS) (pt_162_0 hS) (ex_4_2 (ix_30 (j := i) (v := 0) (sh_163 hS) (by omega) (by omega) (by omega) (dd1.trans (by rw [hv]; rfl)) (ex_29i 0 rfl rfl (ex_6_0 (ix_41r (sh_92 hS) (pt_92_0 hS) (ex_4_3 (ex_4_4 ?_)))))))))
  obtain ⟨J, eJ, hEJ, hLJ, hJ⟩ := k_a0s (d := d + 1) hS hI.1 hBN hI.2.1 (a := a) (b := b) hq
  refine (ix_46 (S' := [(.inl q.2.2)]) rfl (sh_91 hS) eJ rfl rfl (ex_7_5 rfl (ex_6_0 (ex_4_5 (ix_42i (sh_92 hS) (ex_28 (ex_6_0 (ex_22 rfl (ix_41i (v := z.2.1) (sh_92 hS) ((u2_k (by decide)).trans ((hJ 92 5 (by decide) (by decide) (by decide) (by decide)).trans hI.2.2.1)) (ex_0 (ex_add ⟨by omega, by omega⟩ (ix_42i (sh_92 hS) (ex_4_5 ?_)))))))))))))
  refine ex_if2 (fun hc220 => by exfalso; omega) (fun hc220 => ?_)
  refine (ex_0 (ex_28 ?_))
  exact ex_57 (by decide) (hQ1 _ ((q.1, kpl q.2.1 z.1.2), z.2.1 + 1, if 0 = 0 then q.2.2 else z.2.2) (by rw [hv]; exact ogo_s hq) ⟨CE_set hEJ (CC_fr hEJ.1 (fun q k h1 h2 _ => (u2_q (by omega)).trans (u2_q (by omega)))) hEJ.2.1 rfl (fun q k h => (u2_q (by omega)).trans (u2_q (by omega))), CLg_fr hLJ (fun q k h1 h2 => (u2_q (by omega)).trans (u2_q (by omega))), u2_e, (u2_k (by decide)).trans u2_e⟩ (fun q k a1 a2 a3 a4 a5 a6 a7 => (u2_o (by omega)).trans ((u2_o (by omega)).trans (hJ q k a2 a3 a4 a1))))
theorem k_t12_1n {d : Nat} {G : am_G} {I : Nat → Nat → Int} {P : Nat → Nat → Option Nat} {Q : am_O → Prop} (hS : ST G P) {n m zz i : Nat} {cl : Nat → Cl} {c : Nat → Oc} {z : Od} (hD : DRF I m zz c) (hi : i < m) (hI : KOI G P I n cl z) (hBN : BarN n cl) (ht1 : I 1 0 = 999) (hdn : 0 ≤ z.2.1 ∧ z.2.1 ≤ 1000) (hlt : -1 ≤ z.2.2 ∧ z.2.2 ≤ 1000) {a b : Int} (h5 : z.1.1 5 ≤ 999) (hv : (c i).1 = 1) (hq : oact z.1.1 n cl 1 a b = none) (hQ0 : ∀ K, OFK I K → Q (some (.inl 0), (G, K, P))) : am_ex (am_call am_B am_M (d + 6)) (am_B 51) (am_B 51 12) [some (.inr (.inr (some 92))), some (.inr (.inr (some 162))), some (.inl (i : Int)), some (.inl a), some (.inl b), none] [] (G, I, P) Q := by
  have hm12 := hD.2.1
  obtain ⟨dd1, dd2, dd3, dd4, dd5, dd6⟩ := hD.2.2.2.2.2 i hi
  refine (ex_6_1 (ix_41r (sh_162 hS) (pt_162_0 hS) (ex_4_2 (ix_30 (j := i) (v := 1) (sh_163 hS) (by omega) (by omega) (by omega) (dd1.trans (by rw [hv]; rfl)) (ex_29i 1 rfl rfl (ex_6_0 (ix_41r (sh_92 hS) (pt_92_0 hS) (ex_4_3 ?_))))))))
  obtain ⟨xr, J, eJ, hx0, hx1, hJ⟩ := k_a1n (d := d + 4) hS hI.1 (a := a) (b := b) hq
  refine (ix_46 (S' := [(.inl xr)]) rfl (sh_91 hS) eJ rfl rfl (ex_7_5 rfl (ex_28 (ex_6_0 (ex_22 rfl (ix_41i (v := z.2.1) (sh_92 hS) ((hJ 92 5 (by decide) (by decide)).trans hI.2.2.1) (ex_0 (ex_add ⟨by omega, by omega⟩ (ix_42i (sh_92 hS) (ex_4_5 ?_))))))))))
  refine ex_if2 (fun hc220 => ?_) (fun hc220 => by exfalso; omega)
  refine (ex_0 (ex_58 ?_))
  exact ex_57 (by decide) (hQ0 _ (fun q k a1 a2 a3 a4 a5 a6 a7 => (u2_o (by omega)).trans (hJ q k a3 a4)))
theorem k_t12_1s {d : Nat} {G : am_G} {I : Nat → Nat → Int} {P : Nat → Nat → Option Nat} {Q : am_O → Prop} (hS : ST G P) {n m zz i : Nat} {cl : Nat → Cl} {c : Nat → Oc} {z : Od} (hD : DRF I m zz c) (hi : i < m) (hI : KOI G P I n cl z) (hBN : BarN n cl) (ht1 : I 1 0 = 999) (hdn : 0 ≤ z.2.1 ∧ z.2.1 ≤ 1000) (hlt : -1 ≤ z.2.2 ∧ z.2.2 ≤ 1000) {a b : Int} (h5 : z.1.1 5 ≤ 999) (hv : (c i).1 = 1) {q : (Nat → Int) × De × Int} (hq : oact z.1.1 n cl 1 a b = some q) (hQ1 : ∀ K z2, ogo n cl (c i).1 z (some a) (some b) = some z2 → KOI G P K n cl z2 → OFK I K → Q (some (.inl 1), (G, K, P))) : am_ex (am_call am_B am_M (d + 6)) (am_B 51) (am_B 51 12) [some (.inr (.inr (some 92))), some (.inr (.inr (some 162))), some (.inl (i : Int)), some (.inl a), some (.inl b), none] [] (G, I, P) Q := by
  have hm12 := hD.2.1
  obtain ⟨dd1, dd2, dd3, dd4, dd5, dd6⟩ := hD.2.2.2.2.2 i hi
  have hqa := (oact_ok (by decide) hI.1.2.1 h5 hq).2.2.2.2.1
  refine (ex_6_1 (ix_41r (sh_162 hS) (pt_162_0 hS) (ex_4_2 (ix_30 (j := i) (v := 1) (sh_163 hS) (by omega) (by omega) (by omega) (dd1.trans (by rw [hv]; rfl)) (ex_29i 1 rfl rfl (ex_6_0 (ix_41r (sh_92 hS) (pt_92_0 hS) (ex_4_3 ?_))))))))
  obtain ⟨J, eJ, hEJ, hLJ, hJ⟩ := k_a1s (d := d + 4) hS hI.1 hI.2.1 (a := a) (b := b) hq
  refine (ix_46 (S' := [(.inl q.2.2)]) rfl (sh_91 hS) eJ rfl rfl (ex_7_5 rfl (ex_28 (ex_6_0 (ex_22 rfl (ix_41i (v := z.2.1) (sh_92 hS) ((hJ 92 5 (by decide) (by decide) (by decide) (by decide)).trans hI.2.2.1) (ex_0 (ex_add ⟨by omega, by omega⟩ (ix_42i (sh_92 hS) (ex_4_5 ?_))))))))))
  refine ex_if2 (fun hc220 => by exfalso; omega) (fun hc220 => ?_)
  refine (ex_0 (ex_28 ?_))
  exact ex_57 (by decide) (hQ1 _ ((q.1, kpl q.2.1 z.1.2), z.2.1 + 1, if 1 = 0 then q.2.2 else z.2.2) (by rw [hv]; exact ogo_s hq) ⟨CE_set hEJ (CC_fr hEJ.1 (fun q k h1 h2 _ => u2_q (by omega))) hEJ.2.1 rfl (fun q k h => u2_q (by omega)), CLg_fr hLJ (fun q k h1 h2 => u2_q (by omega)), u2_e, (u2_k (by decide)).trans ((hJ 92 6 (by decide) (by decide) (by decide) (by decide)).trans (hI.2.2.2.trans (if_neg (by decide)).symm))⟩ (fun q k a1 a2 a3 a4 a5 a6 a7 => (u2_o (by omega)).trans (hJ q k a2 a3 a4 a1)))
theorem k_t12_2n {d : Nat} {G : am_G} {I : Nat → Nat → Int} {P : Nat → Nat → Option Nat} {Q : am_O → Prop} (hS : ST G P) {n m zz i : Nat} {cl : Nat → Cl} {c : Nat → Oc} {z : Od} (hD : DRF I m zz c) (hi : i < m) (hI : KOI G P I n cl z) (hBN : BarN n cl) (ht1 : I 1 0 = 999) (hdn : 0 ≤ z.2.1 ∧ z.2.1 ≤ 1000) (hlt : -1 ≤ z.2.2 ∧ z.2.2 ≤ 1000) {a b : Int} (h5 : z.1.1 5 ≤ 999) (hv : (c i).1 = 2) (hq : oact z.1.1 n cl 2 a b = none) (hQ0 : ∀ K, OFK I K → Q (some (.inl 0), (G, K, P))) : am_ex (am_call am_B am_M (d + 6)) (am_B 51) (am_B 51 12) [some (.inr (.inr (some 92))), some (.inr (.inr (some 162))), some (.inl (i : Int)), some (.inl a), some (.inl b), none] [] (G, I, P) Q := by
  have hm12 := hD.2.1
  obtain ⟨dd1, dd2, dd3, dd4, dd5, dd6⟩ := hD.2.2.2.2.2 i hi
  refine (ex_6_1 (ix_41r (sh_162 hS) (pt_162_0 hS) (ex_4_2 (ix_30 (j := i) (v := 2) (sh_163 hS) (by omega) (by omega) (by omega) (dd1.trans (by rw [hv]; rfl)) (ex_29i 2 rfl rfl (ex_6_0 (ix_41r (sh_92 hS) (pt_92_0 hS) (ex_4_3 ?_))))))))
  obtain ⟨xr, J, eJ, hx0, hx1, hJ⟩ := k_a2n (d := d + 3) hS hI.1 (a := a) (b := b) hq
  refine (ix_46 (S' := [(.inl xr)]) rfl (sh_91 hS) eJ rfl rfl (ex_7_5 rfl (ex_28 (ex_6_0 (ex_22 rfl (ix_41i (v := z.2.1) (sh_92 hS) ((hJ 92 5 (by decide) (by decide)).trans hI.2.2.1) (ex_0 (ex_add ⟨by omega, by omega⟩ (ix_42i (sh_92 hS) (ex_4_5 ?_))))))))))
  refine ex_if2 (fun hc220 => ?_) (fun hc220 => by exfalso; omega)
  refine (ex_0 (ex_58 ?_))
  exact ex_57 (by decide) (hQ0 _ (fun q k a1 a2 a3 a4 a5 a6 a7 => (u2_o (by omega)).trans (hJ q k a3 a4)))
theorem k_t12_2s {d : Nat} {G : am_G} {I : Nat → Nat → Int} {P : Nat → Nat → Option Nat} {Q : am_O → Prop} (hS : ST G P) {n m zz i : Nat} {cl : Nat → Cl} {c : Nat → Oc} {z : Od} (hD : DRF I m zz c) (hi : i < m) (hI : KOI G P I n cl z) (hBN : BarN n cl) (ht1 : I 1 0 = 999) (hdn : 0 ≤ z.2.1 ∧ z.2.1 ≤ 1000) (hlt : -1 ≤ z.2.2 ∧ z.2.2 ≤ 1000) {a b : Int} (h5 : z.1.1 5 ≤ 999) (hv : (c i).1 = 2) {q : (Nat → Int) × De × Int} (hq : oact z.1.1 n cl 2 a b = some q) (hQ1 : ∀ K z2, ogo n cl (c i).1 z (some a) (some b) = some z2 → KOI G P K n cl z2 → OFK I K → Q (some (.inl 1), (G, K, P))) : am_ex (am_call am_B am_M (d + 6)) (am_B 51) (am_B 51 12) [some (.inr (.inr (some 92))), some (.inr (.inr (some 162))), some (.inl (i : Int)), some (.inl a), some (.inl b), none] [] (G, I, P) Q := by
  have hm12 := hD.2.1
  obtain ⟨dd1, dd2, dd3, dd4, dd5, dd6⟩ := hD.2.2.2.2.2 i hi
  have hqa := (oact_ok (by decide) hI.1.2.1 h5 hq).2.2.2.2.1
  refine (ex_6_1 (ix_41r (sh_162 hS) (pt_162_0 hS) (ex_4_2 (ix_30 (j := i) (v := 2) (sh_163 hS) (by omega) (by omega) (by omega) (dd1.trans (by rw [hv]; rfl)) (ex_29i 2 rfl rfl (ex_6_0 (ix_41r (sh_92 hS) (pt_92_0 hS) (ex_4_3 ?_))))))))
  obtain ⟨J, eJ, hEJ, hLJ, hJ⟩ := k_a2s (d := d + 3) hS hI.1 hI.2.1 (a := a) (b := b) hq
  refine (ix_46 (S' := [(.inl q.2.2)]) rfl (sh_91 hS) eJ rfl rfl (ex_7_5 rfl (ex_28 (ex_6_0 (ex_22 rfl (ix_41i (v := z.2.1) (sh_92 hS) ((hJ 92 5 (by decide) (by decide) (by decide) (by decide)).trans hI.2.2.1) (ex_0 (ex_add ⟨by omega, by omega⟩ (ix_42i (sh_92 hS) (ex_4_5 ?_))))))))))
  refine ex_if2 (fun hc220 => by exfalso; omega) (fun hc220 => ?_)
  refine (ex_0 (ex_28 ?_))
  exact ex_57 (by decide) (hQ1 _ ((q.1, kpl q.2.1 z.1.2), z.2.1 + 1, if 2 = 0 then q.2.2 else z.2.2) (by rw [hv]; exact ogo_s hq) ⟨CE_set hEJ (CC_fr hEJ.1 (fun q k h1 h2 _ => u2_q (by omega))) hEJ.2.1 rfl (fun q k h => u2_q (by omega)), CLg_fr hLJ (fun q k h1 h2 => u2_q (by omega)), u2_e, (u2_k (by decide)).trans ((hJ 92 6 (by decide) (by decide) (by decide) (by decide)).trans (hI.2.2.2.trans (if_neg (by decide)).symm))⟩ (fun q k a1 a2 a3 a4 a5 a6 a7 => (u2_o (by omega)).trans (hJ q k a2 a3 a4 a1)))
theorem k_t12_3n {d : Nat} {G : am_G} {I : Nat → Nat → Int} {P : Nat → Nat → Option Nat} {Q : am_O → Prop} (hS : ST G P) {n m zz i : Nat} {cl : Nat → Cl} {c : Nat → Oc} {z : Od} (hD : DRF I m zz c) (hi : i < m) (hI : KOI G P I n cl z) (hBN : BarN n cl) (ht1 : I 1 0 = 999) (hdn : 0 ≤ z.2.1 ∧ z.2.1 ≤ 1000) (hlt : -1 ≤ z.2.2 ∧ z.2.2 ≤ 1000) {a b : Int} (h5 : z.1.1 5 ≤ 999) (hv : (c i).1 = 3) (hq : oact z.1.1 n cl 3 a b = none) (hQ0 : ∀ K, OFK I K → Q (some (.inl 0), (G, K, P))) : am_ex (am_call am_B am_M (d + 6)) (am_B 51) (am_B 51 12) [some (.inr (.inr (some 92))), some (.inr (.inr (some 162))), some (.inl (i : Int)), some (.inl a), some (.inl b), none] [] (G, I, P) Q := by
  have hm12 := hD.2.1
  obtain ⟨dd1, dd2, dd3, dd4, dd5, dd6⟩ := hD.2.2.2.2.2 i hi
  refine (ex_6_1 (ix_41r (sh_162 hS) (pt_162_0 hS) (ex_4_2 (ix_30 (j := i) (v := 3) (sh_163 hS) (by omega) (by omega) (by omega) (dd1.trans (by rw [hv]; rfl)) (ex_29o (by decide) (ex_6_0 (ix_41r (sh_92 hS) (pt_92_0 hS) ?_)))))))
  obtain ⟨xr, J, eJ, hx0, hx1, hJ⟩ := k_a3n (d := d + 1) hS hI.1 ht1 (a := a) (b := b) hq
  refine (ix_46 (S' := [(.inl xr)]) rfl (sh_91 hS) eJ rfl rfl (ex_7_5 rfl (ex_58 (ex_6_0 (ex_22 rfl (ix_41i (v := z.2.1) (sh_92 hS) ((hJ 92 5 (by decide) (by decide)).trans hI.2.2.1) (ex_0 (ex_add ⟨by omega, by omega⟩ (ix_42i (sh_92 hS) (ex_4_5 ?_))))))))))
  refine ex_if2 (fun hc220 => ?_) (fun hc220 => by exfalso; omega)
  refine (ex_0 (ex_58 ?_))
  exact ex_57 (by decide) (hQ0 _ (fun q k a1 a2 a3 a4 a5 a6 a7 => (u2_o (by omega)).trans (hJ q k a3 a4)))
theorem k_t12_3s {d : Nat} {G : am_G} {I : Nat → Nat → Int} {P : Nat → Nat → Option Nat} {Q : am_O → Prop} (hS : ST G P) {n m zz i : Nat} {cl : Nat → Cl} {c : Nat → Oc} {z : Od} (hD : DRF I m zz c) (hi : i < m) (hI : KOI G P I n cl z) (hBN : BarN n cl) (ht1 : I 1 0 = 999) (hdn : 0 ≤ z.2.1 ∧ z.2.1 ≤ 1000) (hlt : -1 ≤ z.2.2 ∧ z.2.2 ≤ 1000) {a b : Int} (h5 : z.1.1 5 ≤ 999) (hv : (c i).1 = 3) {q : (Nat → Int) × De × Int} (hq : oact z.1.1 n cl 3 a b = some q) (hQ1 : ∀ K z2, ogo n cl (c i).1 z (some a) (some b) = some z2 → KOI G P K n cl z2 → OFK I K → Q (some (.inl 1), (G, K, P))) : am_ex (am_call am_B am_M (d + 6)) (am_B 51) (am_B 51 12) [some (.inr (.inr (some 92))), some (.inr (.inr (some 162))), some (.inl (i : Int)), some (.inl a), some (.inl b), none] [] (G, I, P) Q := by
  have hm12 := hD.2.1
  obtain ⟨dd1, dd2, dd3, dd4, dd5, dd6⟩ := hD.2.2.2.2.2 i hi
  have hqa := (oact_ok (by decide) hI.1.2.1 h5 hq).2.2.2.2.1
  refine (ex_6_1 (ix_41r (sh_162 hS) (pt_162_0 hS) (ex_4_2 (ix_30 (j := i) (v := 3) (sh_163 hS) (by omega) (by omega) (by omega) (dd1.trans (by rw [hv]; rfl)) (ex_29o (by decide) (ex_6_0 (ix_41r (sh_92 hS) (pt_92_0 hS) ?_)))))))
  obtain ⟨J, eJ, hEJ, hLJ, hJ⟩ := k_a3s (d := d + 1) hS hI.1 ht1 hI.2.1 (a := a) (b := b) hq
  refine (ix_46 (S' := [(.inl q.2.2)]) rfl (sh_91 hS) eJ rfl rfl (ex_7_5 rfl (ex_58 (ex_6_0 (ex_22 rfl (ix_41i (v := z.2.1) (sh_92 hS) ((hJ 92 5 (by decide) (by decide) (by decide) (by decide)).trans hI.2.2.1) (ex_0 (ex_add ⟨by omega, by omega⟩ (ix_42i (sh_92 hS) (ex_4_5 ?_))))))))))
  refine ex_if2 (fun hc220 => by exfalso; omega) (fun hc220 => ?_)
  refine (ex_0 (ex_28 ?_))
  exact ex_57 (by decide) (hQ1 _ ((q.1, kpl q.2.1 z.1.2), z.2.1 + 1, if 3 = 0 then q.2.2 else z.2.2) (by rw [hv]; exact ogo_s hq) ⟨CE_set hEJ (CC_fr hEJ.1 (fun q k h1 h2 _ => u2_q (by omega))) hEJ.2.1 rfl (fun q k h => u2_q (by omega)), CLg_fr hLJ (fun q k h1 h2 => u2_q (by omega)), u2_e, (u2_k (by decide)).trans ((hJ 92 6 (by decide) (by decide) (by decide) (by decide)).trans (hI.2.2.2.trans (if_neg (by decide)).symm))⟩ (fun q k a1 a2 a3 a4 a5 a6 a7 => (u2_o (by omega)).trans (hJ q k a2 a3 a4 a1)))
theorem k_t12 {d : Nat} {G : am_G} {I : Nat → Nat → Int} {P : Nat → Nat → Option Nat} {Q : am_O → Prop} (hS : ST G P) {n m zz i : Nat} {cl : Nat → Cl} {c : Nat → Oc} {z : Od} (hD : DRF I m zz c) (hi : i < m) (hI : KOI G P I n cl z) (hBN : BarN n cl) (ht1 : I 1 0 = 999) (hdn : 0 ≤ z.2.1 ∧ z.2.1 ≤ 1000) (hlt : -1 ≤ z.2.2 ∧ z.2.2 ≤ 1000) {a b : Int} (h5 : z.1.1 5 ≤ 999) (hQ0 : ∀ K, ogo n cl (c i).1 z (some a) (some b) = none → OFK I K → Q (some (.inl 0), (G, K, P))) (hQ1 : ∀ K z2, ogo n cl (c i).1 z (some a) (some b) = some z2 → KOI G P K n cl z2 → OFK I K → Q (some (.inl 1), (G, K, P))) : am_ex (am_call am_B am_M (d + 6)) (am_B 51) (am_B 51 12) [some (.inr (.inr (some 92))), some (.inr (.inr (some 162))), some (.inl (i : Int)), some (.inl a), some (.inl b), none] [] (G, I, P) Q := by
  have hv4 : (c i).1 < 4 := (hD.2.2.2.2.2 i hi).2.1
  have hvv : (c i).1 = 0 ∨ (c i).1 = 1 ∨ (c i).1 = 2 ∨ (c i).1 = 3 := by omega
  rcases hvv with hv | hv | hv | hv
  · cases hq : oact z.1.1 n cl 0 a b with
    | none => exact k_t12_0n hS hD hi hI hBN ht1 hdn hlt h5 hv hq (fun K => hQ0 K (by rw [hv]; exact ogo_n hq))
    | some q => exact k_t12_0s hS hD hi hI hBN ht1 hdn hlt h5 hv hq hQ1
  · cases hq : oact z.1.1 n cl 1 a b with
    | none => exact k_t12_1n hS hD hi hI hBN ht1 hdn hlt h5 hv hq (fun K => hQ0 K (by rw [hv]; exact ogo_n hq))
    | some q => exact k_t12_1s hS hD hi hI hBN ht1 hdn hlt h5 hv hq hQ1
  · cases hq : oact z.1.1 n cl 2 a b with
    | none => exact k_t12_2n hS hD hi hI hBN ht1 hdn hlt h5 hv hq (fun K => hQ0 K (by rw [hv]; exact ogo_n hq))
    | some q => exact k_t12_2s hS hD hi hI hBN ht1 hdn hlt h5 hv hq hQ1
  · cases hq : oact z.1.1 n cl 3 a b with
    | none => exact k_t12_3n hS hD hi hI hBN ht1 hdn hlt h5 hv hq (fun K => hQ0 K (by rw [hv]; exact ogo_n hq))
    | some q => exact k_t12_3s hS hD hi hI hBN ht1 hdn hlt h5 hv hq hQ1
