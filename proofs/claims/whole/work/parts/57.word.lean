/-! ===== tokens of the class: which word, which number ===== -/
def st_tx : List (List Int) := [[114, 105, 110, 103, 32, 101, 110, 103, 97, 103, 101, 32, 115, 109, 97, 115, 104, 32, 112, 97, 115, 115],
  [116, 101, 108, 108, 115, 32, 115, 111, 97, 107, 115, 32, 103, 111, 101, 115, 32, 98, 97, 114, 115],
  [91],
  [93],
  [110, 105, 103, 104, 116, 32, 100, 111, 110, 101, 32, 108, 97, 116, 101, 115, 116, 32, 108, 101, 97, 114, 110, 116, 32, 115, 111, 97, 107, 101, 100, 32, 97, 116, 32, 98, 117, 115, 121],
  [99, 108, 111, 117, 100, 32, 107, 105, 110, 100, 32, 114, 97, 103, 101, 32, 98, 111, 120, 32, 102, 111, 108, 107, 32, 107, 110, 111, 119, 115, 32, 119, 101, 116, 32, 110, 105, 103, 104, 116, 32, 109, 111, 111, 100],
  [42, 32, 47, 32, 37],
  [43, 32, 45],
  [116, 111],
  [116, 105, 109, 101, 115],
  [105, 102],
  [110, 111, 116],
  [40],
  [41],
  [60, 32, 62, 32, 61],
  [97, 110, 100],
  [111, 114],
  [59]]
/-- what the constants hold -/
def KS (I : Nat → Nat → Int) : Prop := (∀ c w, st_tx[c]? = some w → ∀ i, i < w.length → I (3 + c) i = w.getD i 0) ∧ (I 1 0 = 999 ∧ I 1 1 = 10 ∧ I 1 2 = 9) ∧ (I 2 0 = 1 ∧ I 2 1 = 2 ∧ I 2 2 = 3 ∧ I 2 3 = 5 ∧ I 2 4 = 6)
theorem KS_fr {I J : Nat → Nat → Int} (h : KS I) (hf : ∀ q k, q < 64 → J q k = I q k) : KS J := ⟨fun c w e i hi => (hf _ _ (by have := (List.getElem?_eq_some_iff.mp e).1; have h18 : st_tx.length = 18 := rfl; omega)).trans (h.1 c w e i hi), ⟨(hf _ _ (by decide)).trans h.2.1.1, (hf _ _ (by decide)).trans h.2.1.2.1, (hf _ _ (by decide)).trans h.2.1.2.2⟩, (hf _ _ (by decide)).trans h.2.2.1, (hf _ _ (by decide)).trans h.2.2.2.1, (hf _ _ (by decide)).trans h.2.2.2.2.1, (hf _ _ (by decide)).trans h.2.2.2.2.2.1, (hf _ _ (by decide)).trans h.2.2.2.2.2.2⟩
def alk (b : Nat → Int) (e s : Nat) (kw : List Int) (m : Nat) (a : Int) : Int := if a = 1 ∧ s + m < e ∧ b (s + m) = kw.getD m 0 then 1 else 0
theorem alk_i {b : Nat → Int} {e s : Nat} {kw : List Int} {m : Nat} {a : Int} (h : (a = 0 ∨ a = 1) ∧ (a = 1 ↔ (s + m ≤ e ∧ ∀ i, i < m → b (s + i) = kw.getD i 0))) : (alk b e s kw m a = 0 ∨ alk b e s kw m a = 1) ∧ (alk b e s kw m a = 1 ↔ (s + (m + 1) ≤ e ∧ ∀ i, i < m + 1 → b (s + i) = kw.getD i 0)) := by
  unfold alk
  by_cases c : a = 1 ∧ s + m < e ∧ b (s + m) = kw.getD m 0
  · rw [if_pos c]
    refine ⟨Or.inr rfl, fun _ => ⟨by omega, fun i hi => ?_⟩, fun _ => rfl⟩
    by_cases z : i = m
    · rw [z]; exact c.2.2
    · exact (h.2.mp c.1).2 i (by omega)
  · rw [if_neg c]
    refine ⟨Or.inl rfl, fun z => absurd z (by decide), fun z => absurd ⟨h.2.mpr ⟨by omega, fun i hi => z.2 i (by omega)⟩, by omega, z.2 m (by omega)⟩ c⟩
theorem l_word {d : Nat} {G : am_G} {I : Nat → Nat → Int} {P : Nat → Nat → Option Nat} {Q : am_O → Prop} (hS : ST G P) {b : Nat → Int} {n : Nat} (hB : TB b n) {s : Nat} (hT : TK I P b n s) (hs : s ≤ n) {z ln : Nat} (hz : G.2.2 z = .inl (8, ln)) (hln : ln ≤ 100) {kw : List Int} {p j : Nat} (hj : j ≤ 100) (hkw : ∀ i, i < kw.length → I z (p + i) = kw.getD i 0) (hkb : ∀ i, i < kw.length → 0 ≤ kw.getD i 0 ∧ kw.getD i 0 < 128 ∧ ¬ kw.getD i 0 = 32) (hend : p + kw.length = ln ∨ (p + kw.length < ln ∧ I z (p + kw.length) = 32)) (hy : tk b n s = kw → Q (some (.inl (j : Int)), (G, I, P))) (hno : ¬ tk b n s = kw → am_ex (am_call am_B am_M (d + 0)) (am_B 104) (am_B 104 1) [some (.inr (.inr (some 169))), some (.inr (.inr (some z))), some (.inl ((j : Int) + 1)), some (.inl (s : Int)), some (.inl 1), some (.inl (((p + kw.length : Nat) : Int) + 1))] [] (G, I, P) Q) : am_ex (am_call am_B am_M (d + 0)) (am_B 104) (am_B 104 1) [some (.inr (.inr (some 169))), some (.inr (.inr (some z))), some (.inl (j : Int)), some (.inl (s : Int)), some (.inl 1), some (.inl (p : Int))] [] (G, I, P) Q := by
  have hn4 := hB.1
  have he := en_b (b := b) hs
  have hpl : p + kw.length ≤ ln := by omega
  refine ex_forH (b := 1) (σ := Int) (kw.length) (fun m a => alk b (en b n s) s kw m a) (fun m a => (a = 0 ∨ a = 1) ∧ (a = 1 ↔ (s + m ≤ en b n s ∧ ∀ i, i < m → b (s + i) = kw.getD i 0))) (fun m a e_m => [some (.inr (.inr (some 169))), some (.inr (.inr (some z))), some (.inl (j : Int)), some (.inl ((s + m : Nat) : Int)), some (.inl a), some (.inl ((p + m : Nat) : Int))]) (fun m a => (G, I, P)) ?_ ?_ (kw.length) (0) (1) (fun k_ => ([some (.inr (.inr (some 169))), some (.inr (.inr (some z))), some (.inl (j : Int)), some (.inl (s : Int)), some (.inl 1), some (.inl (p : Int))] : am_L).getD k_ none) (by omega) (⟨Or.inr rfl, fun _ => ⟨by omega, fun i hi => absurd hi (by omega)⟩, fun _ => rfl⟩) rfl (rfl) ?_
  · intro m a him hvm
    exact alk_i hvm
  · intro m a e_m him hvm a' hsm hkm
    have hk3 := hkb m him
    have h01 := hvm.1
    refine (ex_4_5 (ex_6_1 (ix_50 hz rfl ?_)))
    refine ex_ic4 (fun hc19 => by exfalso; omega) (fun hc19 => ?_)
    refine (ex_4_5 (ex_6_1 (ix_50 hz rfl ?_)))
    refine ex_ic3 (fun hc28 => by exfalso; omega) (fun hc28 => ?_)
    refine (ex_6_1 (ex_4_5 (ix_51 (j := (p + m)) hz (by omega) (by omega) rfl (by omega) (hkw m him) (ex_0 ?_))))
    refine ex_ic0 (fun hc39 => by exact absurd hc39 (by omega)) (fun hc39 => ?_)
    refine (ex_4_4 ?_)
    refine ex_if0 (fun hc44 => ?_) (fun hc44 => ?_)
    · refine (ex_0 (ex_58 (ex_7_4 rfl (ex_10_3 ⟨by omega, by omega⟩ rfl (ex_28 (ex_10_5 ⟨by omega, by omega⟩ rfl (ex_28 ?_)))))))
      have e : a' = 0 := hsm.trans (if_neg (fun zz => by have := (sb_eq (v := b (s + m)) (c := kw.getD m 0) (hB.2 _ (by omega)) ⟨by omega, by omega⟩).mpr zz.2.2; omega))
      rw [e] at hkm
      exact hkm (fun k_ => ([some (.inr (.inr (some 169))), some (.inr (.inr (some z))), some (.inl (j : Int)), some (.inl (((s + m : Nat) : Int) + 1)), some (.inl 0), some (.inl (((p + m : Nat) : Int) + 1))] : am_L).getD k_ none)
    · refine (ex_4_3 (ex_6_0 (ix_41i (v := ((en b n s) : Int)) (sh_169 hS) hT.2.2.2.1 ?_)))
      refine ex_ic3 (fun hc52 => ?_) (fun hc52 => ?_)
      · refine (ex_0 (ex_58 (ex_7_4 rfl (ex_10_3 ⟨by omega, by omega⟩ rfl (ex_28 (ex_10_5 ⟨by omega, by omega⟩ rfl (ex_28 ?_)))))))
        have e : a' = 0 := hsm.trans (if_neg (fun zz => by have := (sb_eq (v := b (s + m)) (c := kw.getD m 0) (hB.2 _ (by omega)) ⟨by omega, by omega⟩).mpr zz.2.2; omega))
        rw [e] at hkm
        exact hkm (fun k_ => ([some (.inr (.inr (some 169))), some (.inr (.inr (some z))), some (.inl (j : Int)), some (.inl (((s + m : Nat) : Int) + 1)), some (.inl 0), some (.inl (((p + m : Nat) : Int) + 1))] : am_L).getD k_ none)
      · refine (ex_6_0 (ix_41r (sh_169 hS) hT.1 (ex_4_3 (ix_31 (j := (s + m)) (v := (sb (b (s + m)))) (sh_171 hS) (by omega) (by omega) (by omega) (hT.2.2.2.2.2 _ (by omega)) (ex_6_1 (ex_4_5 (ix_51 (j := (p + m)) hz (by omega) (by omega) rfl (by omega) (hkw m him) ?_)))))))
        refine ex_ic1 (fun hc67 => ?_) (fun hc67 => ?_)
        · refine (ex_0 (ex_58 (ex_7_4 rfl (ex_10_3 ⟨by omega, by omega⟩ rfl (ex_28 (ex_10_5 ⟨by omega, by omega⟩ rfl (ex_28 ?_)))))))
          have e : a' = 0 := hsm.trans (if_neg (fun zz => by have := (sb_eq (v := b (s + m)) (c := kw.getD m 0) (hB.2 _ (by omega)) ⟨by omega, by omega⟩).mpr zz.2.2; omega))
          rw [e] at hkm
          exact hkm (fun k_ => ([some (.inr (.inr (some 169))), some (.inr (.inr (some z))), some (.inl (j : Int)), some (.inl (((s + m : Nat) : Int) + 1)), some (.inl 0), some (.inl (((p + m : Nat) : Int) + 1))] : am_L).getD k_ none)
        · refine (ex_0 (ex_28 (ex_7_4 rfl (ex_10_3 ⟨by omega, by omega⟩ rfl (ex_28 (ex_10_5 ⟨by omega, by omega⟩ rfl (ex_28 ?_)))))))
          have e : a' = 1 := hsm.trans (if_pos ⟨by omega, by omega, (sb_eq (hB.2 _ (by omega)) ⟨by omega, by omega⟩).mp (by omega)⟩)
          rw [e] at hkm
          exact hkm (fun k_ => ([some (.inr (.inr (some 169))), some (.inr (.inr (some z))), some (.inl (j : Int)), some (.inl (((s + m : Nat) : Int) + 1)), some (.inl 1), some (.inl (((p + m : Nat) : Int) + 1))] : am_L).getD k_ none)
  · intro a e_m hsm hvm
    have hch : ¬ ln ≤ p + kw.length → I z (p + kw.length) = 32 := fun q => (hend.resolve_left (by omega)).2
    have h01 := hvm.1
    refine (ex_4_5 (ex_6_1 (ix_50 hz rfl ?_)))
    refine ex_ic4 (fun hc19 => by exfalso; omega) (fun hc19 => ?_)
    refine (ex_4_5 (ex_6_1 (ix_50 hz rfl ?_)))
    refine ex_ic3 (fun hc28 => ?_) (fun hc28 => ?_)
    · refine (ex_4_4 ?_)
      refine ex_if0 (fun hc85 => ?_) (fun hc85 => ?_)
      · refine (ex_10_2 ⟨by omega, by omega⟩ rfl (ex_6_0 (ix_41i (v := (s : Int)) (sh_169 hS) hT.2.2.1 (ex_7_3 rfl (ex_0 (ex_7_4 rfl (ex_58 (ex_10_5 ⟨by omega, by omega⟩ rfl (ex_28 ?_)))))))))
        exact hno (fun q => by have q1 := (tk_eq.mp q); have q2 := hvm.2.mpr ⟨by omega, q1.2⟩; omega)
      · refine (ex_4_3 (ex_6_0 (ix_41i (v := ((en b n s) : Int)) (sh_169 hS) hT.2.2.2.1 ?_)))
        refine ex_ic1 (fun hc93 => ?_) (fun hc93 => ?_)
        · refine (ex_10_2 ⟨by omega, by omega⟩ rfl (ex_6_0 (ix_41i (v := (s : Int)) (sh_169 hS) hT.2.2.1 (ex_7_3 rfl (ex_0 (ex_7_4 rfl (ex_58 (ex_10_5 ⟨by omega, by omega⟩ rfl (ex_28 ?_)))))))))
          exact hno (fun q => by have q1 := (tk_eq.mp q); have q2 := hvm.2.mpr ⟨by omega, q1.2⟩; omega)
        · refine (ex_4_2 ?_)
          exact ex_53 (hy (tk_eq.mpr (by have q := hvm.2.mp (by omega); exact ⟨by omega, q.2⟩)))
    · refine (ex_6_1 (ex_4_5 (ix_51 (j := (p + (kw.length))) hz (by omega) (by omega) rfl (by omega) (hch (by omega)) (ex_0 (ex_ic0 (fun _ => ?_) (fun hc => by exfalso; revert hc; decide))))))
      refine (ex_4_4 ?_)
      refine ex_if0 (fun hc85 => ?_) (fun hc85 => ?_)
      · refine (ex_10_2 ⟨by omega, by omega⟩ rfl (ex_6_0 (ix_41i (v := (s : Int)) (sh_169 hS) hT.2.2.1 (ex_7_3 rfl (ex_0 (ex_7_4 rfl (ex_58 (ex_10_5 ⟨by omega, by omega⟩ rfl (ex_28 ?_)))))))))
        exact hno (fun q => by have q1 := (tk_eq.mp q); have q2 := hvm.2.mpr ⟨by omega, q1.2⟩; omega)
      · refine (ex_4_3 (ex_6_0 (ix_41i (v := ((en b n s) : Int)) (sh_169 hS) hT.2.2.2.1 ?_)))
        refine ex_ic1 (fun hc93 => ?_) (fun hc93 => ?_)
        · refine (ex_10_2 ⟨by omega, by omega⟩ rfl (ex_6_0 (ix_41i (v := (s : Int)) (sh_169 hS) hT.2.2.1 (ex_7_3 rfl (ex_0 (ex_7_4 rfl (ex_58 (ex_10_5 ⟨by omega, by omega⟩ rfl (ex_28 ?_)))))))))
          exact hno (fun q => by have q1 := (tk_eq.mp q); have q2 := hvm.2.mpr ⟨by omega, q1.2⟩; omega)
        · refine (ex_4_2 ?_)
          exact ex_53 (hy (tk_eq.mpr (by have q := hvm.2.mp (by omega); exact ⟨by omega, q.2⟩)))
theorem k_oo_3 {d : Nat} {G : am_G} {I : Nat → Nat → Int} {P : Nat → Nat → Option Nat} (hS : ST G P) (hK : KS I) {b : Nat → Int} {n : Nat} (hB : TB b n) {s : Nat} (hT : TK I P b n s) (hs : s ≤ n) : am_call am_B am_M (d + 1) 104 [.inr (.inr (some 169)), .inr (.inr (some 3))] (G, I, P) = some (some (.inl (ooI [[114, 105, 110, 103], [101, 110, 103, 97, 103, 101], [115, 109, 97, 115, 104], [112, 97, 115, 115]] 0 (tk b n s))), (G, I, P)) := by
  have hz := hK.1 0 _ rfl
  refine am_doL (L := [some (.inr (.inr (some 169))), some (.inr (.inr (some 3))), none, none, none, none]) (Nat.le_of_ble_eq_true rfl) rfl ?_
  refine ex_0 (ex_7_2 rfl (ex_6_0 (ix_41i (v := (s : Int)) (sh_169 hS) hT.2.2.1 (ex_7_3 rfl (ex_0 (ex_7_4 rfl (ex_0 (ex_7_5 rfl (ex_58 ?_)))))))))
  refine l_word (d := d) (z := 3) (ln := 22) (kw := [114, 105, 110, 103]) (p := 0) (j := 0) hS hB hT hs (sh_3 hS) (by decide) (by decide) (fun i hi => ?_) (by decide) (Or.inr ⟨by decide, hz 4 (by decide)⟩) (fun e => by rw [e]; rfl) (fun n0 => ?_)
  · have q : ∀ i, i < 4 → ([114, 105, 110, 103, 32, 101, 110, 103, 97, 103, 101, 32, 115, 109, 97, 115, 104, 32, 112, 97, 115, 115] : List Int).getD (0 + i) 0 = ([114, 105, 110, 103] : List Int).getD i 0 := by decide
    exact (hz (0 + i) (by have hi : i < 4 := hi; show 0 + i < 22; omega)).trans (q i hi)
  refine l_word (d := d) (z := 3) (ln := 22) (kw := [101, 110, 103, 97, 103, 101]) (p := 5) (j := 1) hS hB hT hs (sh_3 hS) (by decide) (by decide) (fun i hi => ?_) (by decide) (Or.inr ⟨by decide, hz 11 (by decide)⟩) (fun e => by rw [e]; rfl) (fun n1 => ?_)
  · have q : ∀ i, i < 6 → ([114, 105, 110, 103, 32, 101, 110, 103, 97, 103, 101, 32, 115, 109, 97, 115, 104, 32, 112, 97, 115, 115] : List Int).getD (5 + i) 0 = ([101, 110, 103, 97, 103, 101] : List Int).getD i 0 := by decide
    exact (hz (5 + i) (by have hi : i < 6 := hi; show 5 + i < 22; omega)).trans (q i hi)
  refine l_word (d := d) (z := 3) (ln := 22) (kw := [115, 109, 97, 115, 104]) (p := 12) (j := 2) hS hB hT hs (sh_3 hS) (by decide) (by decide) (fun i hi => ?_) (by decide) (Or.inr ⟨by decide, hz 17 (by decide)⟩) (fun e => by rw [e]; rfl) (fun n2 => ?_)
  · have q : ∀ i, i < 5 → ([114, 105, 110, 103, 32, 101, 110, 103, 97, 103, 101, 32, 115, 109, 97, 115, 104, 32, 112, 97, 115, 115] : List Int).getD (12 + i) 0 = ([115, 109, 97, 115, 104] : List Int).getD i 0 := by decide
    exact (hz (12 + i) (by have hi : i < 5 := hi; show 12 + i < 22; omega)).trans (q i hi)
  refine l_word (d := d) (z := 3) (ln := 22) (kw := [112, 97, 115, 115]) (p := 18) (j := 3) hS hB hT hs (sh_3 hS) (by decide) (by decide) (fun i hi => ?_) (by decide) (Or.inl rfl) (fun e => by rw [e]; rfl) (fun n3 => ?_)
  · have q : ∀ i, i < 4 → ([114, 105, 110, 103, 32, 101, 110, 103, 97, 103, 101, 32, 115, 109, 97, 115, 104, 32, 112, 97, 115, 115] : List Int).getD (18 + i) 0 = ([112, 97, 115, 115] : List Int).getD i 0 := by decide
    exact (hz (18 + i) (by have hi : i < 4 := hi; show 18 + i < 22; omega)).trans (q i hi)
  refine ex_4_5 (ex_6_1 (ix_50 (sh_3 hS) rfl (ex_ic4 (fun _ => ?_) (fun hc => by exfalso; revert hc; decide))))
  exact ex_0 (ex_53 (by simp only [ooI, if_neg n0, if_neg n1, if_neg n2, if_neg n3]))
theorem k_ov_3 {d : Nat} {G : am_G} {I : Nat → Nat → Int} {P : Nat → Nat → Option Nat} (hS : ST G P) (hK : KS I) {b : Nat → Int} {n : Nat} (hB : TB b n) {s : Nat} (hT : TK I P b n s) (hs : s ≤ n) {v : Int} (h : ooI [[114, 105, 110, 103], [101, 110, 103, 97, 103, 101], [115, 109, 97, 115, 104], [112, 97, 115, 115]] 0 (tk b n s) = v) : am_call am_B am_M (d + 1) 104 [.inr (.inr (some 169)), .inr (.inr (some 3))] (G, I, P) = some (some (.inl v), (G, I, P)) := h ▸ k_oo_3 hS hK hB hT hs
theorem k_oo_4 {d : Nat} {G : am_G} {I : Nat → Nat → Int} {P : Nat → Nat → Option Nat} (hS : ST G P) (hK : KS I) {b : Nat → Int} {n : Nat} (hB : TB b n) {s : Nat} (hT : TK I P b n s) (hs : s ≤ n) : am_call am_B am_M (d + 1) 104 [.inr (.inr (some 169)), .inr (.inr (some 4))] (G, I, P) = some (some (.inl (ooI [[116, 101, 108, 108, 115], [115, 111, 97, 107, 115], [103, 111, 101, 115], [98, 97, 114, 115]] 0 (tk b n s))), (G, I, P)) := by
  have hz := hK.1 1 _ rfl
  refine am_doL (L := [some (.inr (.inr (some 169))), some (.inr (.inr (some 4))), none, none, none, none]) (Nat.le_of_ble_eq_true rfl) rfl ?_
  refine ex_0 (ex_7_2 rfl (ex_6_0 (ix_41i (v := (s : Int)) (sh_169 hS) hT.2.2.1 (ex_7_3 rfl (ex_0 (ex_7_4 rfl (ex_0 (ex_7_5 rfl (ex_58 ?_)))))))))
  refine l_word (d := d) (z := 4) (ln := 21) (kw := [116, 101, 108, 108, 115]) (p := 0) (j := 0) hS hB hT hs (sh_4 hS) (by decide) (by decide) (fun i hi => ?_) (by decide) (Or.inr ⟨by decide, hz 5 (by decide)⟩) (fun e => by rw [e]; rfl) (fun n0 => ?_)
  · have q : ∀ i, i < 5 → ([116, 101, 108, 108, 115, 32, 115, 111, 97, 107, 115, 32, 103, 111, 101, 115, 32, 98, 97, 114, 115] : List Int).getD (0 + i) 0 = ([116, 101, 108, 108, 115] : List Int).getD i 0 := by decide
    exact (hz (0 + i) (by have hi : i < 5 := hi; show 0 + i < 21; omega)).trans (q i hi)
  refine l_word (d := d) (z := 4) (ln := 21) (kw := [115, 111, 97, 107, 115]) (p := 6) (j := 1) hS hB hT hs (sh_4 hS) (by decide) (by decide) (fun i hi => ?_) (by decide) (Or.inr ⟨by decide, hz 11 (by decide)⟩) (fun e => by rw [e]; rfl) (fun n1 => ?_)
  · have q : ∀ i, i < 5 → ([116, 101, 108, 108, 115, 32, 115, 111, 97, 107, 115, 32, 103, 111, 101, 115, 32, 98, 97, 114, 115] : List Int).getD (6 + i) 0 = ([115, 111, 97, 107, 115] : List Int).getD i 0 := by decide
    exact (hz (6 + i) (by have hi : i < 5 := hi; show 6 + i < 21; omega)).trans (q i hi)
  refine l_word (d := d) (z := 4) (ln := 21) (kw := [103, 111, 101, 115]) (p := 12) (j := 2) hS hB hT hs (sh_4 hS) (by decide) (by decide) (fun i hi => ?_) (by decide) (Or.inr ⟨by decide, hz 16 (by decide)⟩) (fun e => by rw [e]; rfl) (fun n2 => ?_)
  · have q : ∀ i, i < 4 → ([116, 101, 108, 108, 115, 32, 115, 111, 97, 107, 115, 32, 103, 111, 101, 115, 32, 98, 97, 114, 115] : List Int).getD (12 + i) 0 = ([103, 111, 101, 115] : List Int).getD i 0 := by decide
    exact (hz (12 + i) (by have hi : i < 4 := hi; show 12 + i < 21; omega)).trans (q i hi)
  refine l_word (d := d) (z := 4) (ln := 21) (kw := [98, 97, 114, 115]) (p := 17) (j := 3) hS hB hT hs (sh_4 hS) (by decide) (by decide) (fun i hi => ?_) (by decide) (Or.inl rfl) (fun e => by rw [e]; rfl) (fun n3 => ?_)
  · have q : ∀ i, i < 4 → ([116, 101, 108, 108, 115, 32, 115, 111, 97, 107, 115, 32, 103, 111, 101, 115, 32, 98, 97, 114, 115] : List Int).getD (17 + i) 0 = ([98, 97, 114, 115] : List Int).getD i 0 := by decide
    exact (hz (17 + i) (by have hi : i < 4 := hi; show 17 + i < 21; omega)).trans (q i hi)
  refine ex_4_5 (ex_6_1 (ix_50 (sh_4 hS) rfl (ex_ic4 (fun _ => ?_) (fun hc => by exfalso; revert hc; decide))))
  exact ex_0 (ex_53 (by simp only [ooI, if_neg n0, if_neg n1, if_neg n2, if_neg n3]))
theorem k_ov_4 {d : Nat} {G : am_G} {I : Nat → Nat → Int} {P : Nat → Nat → Option Nat} (hS : ST G P) (hK : KS I) {b : Nat → Int} {n : Nat} (hB : TB b n) {s : Nat} (hT : TK I P b n s) (hs : s ≤ n) {v : Int} (h : ooI [[116, 101, 108, 108, 115], [115, 111, 97, 107, 115], [103, 111, 101, 115], [98, 97, 114, 115]] 0 (tk b n s) = v) : am_call am_B am_M (d + 1) 104 [.inr (.inr (some 169)), .inr (.inr (some 4))] (G, I, P) = some (some (.inl v), (G, I, P)) := h ▸ k_oo_4 hS hK hB hT hs
theorem k_oo_5 {d : Nat} {G : am_G} {I : Nat → Nat → Int} {P : Nat → Nat → Option Nat} (hS : ST G P) (hK : KS I) {b : Nat → Int} {n : Nat} (hB : TB b n) {s : Nat} (hT : TK I P b n s) (hs : s ≤ n) : am_call am_B am_M (d + 1) 104 [.inr (.inr (some 169)), .inr (.inr (some 5))] (G, I, P) = some (some (.inl (ooI [[91]] 0 (tk b n s))), (G, I, P)) := by
  have hz := hK.1 2 _ rfl
  refine am_doL (L := [some (.inr (.inr (some 169))), some (.inr (.inr (some 5))), none, none, none, none]) (Nat.le_of_ble_eq_true rfl) rfl ?_
  refine ex_0 (ex_7_2 rfl (ex_6_0 (ix_41i (v := (s : Int)) (sh_169 hS) hT.2.2.1 (ex_7_3 rfl (ex_0 (ex_7_4 rfl (ex_0 (ex_7_5 rfl (ex_58 ?_)))))))))
  refine l_word (d := d) (z := 5) (ln := 1) (kw := [91]) (p := 0) (j := 0) hS hB hT hs (sh_5 hS) (by decide) (by decide) (fun i hi => ?_) (by decide) (Or.inl rfl) (fun e => by rw [e]; rfl) (fun n0 => ?_)
  · exact (congrArg (I 5) (by omega)).trans (hz i hi)
  refine ex_4_5 (ex_6_1 (ix_50 (sh_5 hS) rfl (ex_ic4 (fun _ => ?_) (fun hc => by exfalso; revert hc; decide))))
  exact ex_0 (ex_53 (by simp only [ooI, if_neg n0]))
theorem k_ov_5 {d : Nat} {G : am_G} {I : Nat → Nat → Int} {P : Nat → Nat → Option Nat} (hS : ST G P) (hK : KS I) {b : Nat → Int} {n : Nat} (hB : TB b n) {s : Nat} (hT : TK I P b n s) (hs : s ≤ n) {v : Int} (h : ooI [[91]] 0 (tk b n s) = v) : am_call am_B am_M (d + 1) 104 [.inr (.inr (some 169)), .inr (.inr (some 5))] (G, I, P) = some (some (.inl v), (G, I, P)) := h ▸ k_oo_5 hS hK hB hT hs
theorem k_oo_6 {d : Nat} {G : am_G} {I : Nat → Nat → Int} {P : Nat → Nat → Option Nat} (hS : ST G P) (hK : KS I) {b : Nat → Int} {n : Nat} (hB : TB b n) {s : Nat} (hT : TK I P b n s) (hs : s ≤ n) : am_call am_B am_M (d + 1) 104 [.inr (.inr (some 169)), .inr (.inr (some 6))] (G, I, P) = some (some (.inl (ooI [[93]] 0 (tk b n s))), (G, I, P)) := by
  have hz := hK.1 3 _ rfl
  refine am_doL (L := [some (.inr (.inr (some 169))), some (.inr (.inr (some 6))), none, none, none, none]) (Nat.le_of_ble_eq_true rfl) rfl ?_
  refine ex_0 (ex_7_2 rfl (ex_6_0 (ix_41i (v := (s : Int)) (sh_169 hS) hT.2.2.1 (ex_7_3 rfl (ex_0 (ex_7_4 rfl (ex_0 (ex_7_5 rfl (ex_58 ?_)))))))))
  refine l_word (d := d) (z := 6) (ln := 1) (kw := [93]) (p := 0) (j := 0) hS hB hT hs (sh_6 hS) (by decide) (by decide) (fun i hi => ?_) (by decide) (Or.inl rfl) (fun e => by rw [e]; rfl) (fun n0 => ?_)
  · exact (congrArg (I 6) (by omega)).trans (hz i hi)
  refine ex_4_5 (ex_6_1 (ix_50 (sh_6 hS) rfl (ex_ic4 (fun _ => ?_) (fun hc => by exfalso; revert hc; decide))))
  exact ex_0 (ex_53 (by simp only [ooI, if_neg n0]))
theorem k_ov_6 {d : Nat} {G : am_G} {I : Nat → Nat → Int} {P : Nat → Nat → Option Nat} (hS : ST G P) (hK : KS I) {b : Nat → Int} {n : Nat} (hB : TB b n) {s : Nat} (hT : TK I P b n s) (hs : s ≤ n) {v : Int} (h : ooI [[93]] 0 (tk b n s) = v) : am_call am_B am_M (d + 1) 104 [.inr (.inr (some 169)), .inr (.inr (some 6))] (G, I, P) = some (some (.inl v), (G, I, P)) := h ▸ k_oo_6 hS hK hB hT hs
theorem k_oo_7 {d : Nat} {G : am_G} {I : Nat → Nat → Int} {P : Nat → Nat → Option Nat} (hS : ST G P) (hK : KS I) {b : Nat → Int} {n : Nat} (hB : TB b n) {s : Nat} (hT : TK I P b n s) (hs : s ≤ n) : am_call am_B am_M (d + 1) 104 [.inr (.inr (some 169)), .inr (.inr (some 7))] (G, I, P) = some (some (.inl (ooI [[110, 105, 103, 104, 116], [100, 111, 110, 101], [108, 97, 116, 101, 115, 116], [108, 101, 97, 114, 110, 116], [115, 111, 97, 107, 101, 100], [97, 116], [98, 117, 115, 121]] 0 (tk b n s))), (G, I, P)) := by
  have hz := hK.1 4 _ rfl
  refine am_doL (L := [some (.inr (.inr (some 169))), some (.inr (.inr (some 7))), none, none, none, none]) (Nat.le_of_ble_eq_true rfl) rfl ?_
  refine ex_0 (ex_7_2 rfl (ex_6_0 (ix_41i (v := (s : Int)) (sh_169 hS) hT.2.2.1 (ex_7_3 rfl (ex_0 (ex_7_4 rfl (ex_0 (ex_7_5 rfl (ex_58 ?_)))))))))
  refine l_word (d := d) (z := 7) (ln := 39) (kw := [110, 105, 103, 104, 116]) (p := 0) (j := 0) hS hB hT hs (sh_7 hS) (by decide) (by decide) (fun i hi => ?_) (by decide) (Or.inr ⟨by decide, hz 5 (by decide)⟩) (fun e => by rw [e]; rfl) (fun n0 => ?_)
  · have q : ∀ i, i < 5 → ([110, 105, 103, 104, 116, 32, 100, 111, 110, 101, 32, 108, 97, 116, 101, 115, 116, 32, 108, 101, 97, 114, 110, 116, 32, 115, 111, 97, 107, 101, 100, 32, 97, 116, 32, 98, 117, 115, 121] : List Int).getD (0 + i) 0 = ([110, 105, 103, 104, 116] : List Int).getD i 0 := by decide
    exact (hz (0 + i) (by have hi : i < 5 := hi; show 0 + i < 39; omega)).trans (q i hi)
  refine l_word (d := d) (z := 7) (ln := 39) (kw := [100, 111, 110, 101]) (p := 6) (j := 1) hS hB hT hs (sh_7 hS) (by decide) (by decide) (fun i hi => ?_) (by decide) (Or.inr ⟨by decide, hz 10 (by decide)⟩) (fun e => by rw [e]; rfl) (fun n1 => ?_)
  · have q : ∀ i, i < 4 → ([110, 105, 103, 104, 116, 32, 100, 111, 110, 101, 32, 108, 97, 116, 101, 115, 116, 32, 108, 101, 97, 114, 110, 116, 32, 115, 111, 97, 107, 101, 100, 32, 97, 116, 32, 98, 117, 115, 121] : List Int).getD (6 + i) 0 = ([100, 111, 110, 101] : List Int).getD i 0 := by decide
    exact (hz (6 + i) (by have hi : i < 4 := hi; show 6 + i < 39; omega)).trans (q i hi)
  refine l_word (d := d) (z := 7) (ln := 39) (kw := [108, 97, 116, 101, 115, 116]) (p := 11) (j := 2) hS hB hT hs (sh_7 hS) (by decide) (by decide) (fun i hi => ?_) (by decide) (Or.inr ⟨by decide, hz 17 (by decide)⟩) (fun e => by rw [e]; rfl) (fun n2 => ?_)
  · have q : ∀ i, i < 6 → ([110, 105, 103, 104, 116, 32, 100, 111, 110, 101, 32, 108, 97, 116, 101, 115, 116, 32, 108, 101, 97, 114, 110, 116, 32, 115, 111, 97, 107, 101, 100, 32, 97, 116, 32, 98, 117, 115, 121] : List Int).getD (11 + i) 0 = ([108, 97, 116, 101, 115, 116] : List Int).getD i 0 := by decide
    exact (hz (11 + i) (by have hi : i < 6 := hi; show 11 + i < 39; omega)).trans (q i hi)
  refine l_word (d := d) (z := 7) (ln := 39) (kw := [108, 101, 97, 114, 110, 116]) (p := 18) (j := 3) hS hB hT hs (sh_7 hS) (by decide) (by decide) (fun i hi => ?_) (by decide) (Or.inr ⟨by decide, hz 24 (by decide)⟩) (fun e => by rw [e]; rfl) (fun n3 => ?_)
  · have q : ∀ i, i < 6 → ([110, 105, 103, 104, 116, 32, 100, 111, 110, 101, 32, 108, 97, 116, 101, 115, 116, 32, 108, 101, 97, 114, 110, 116, 32, 115, 111, 97, 107, 101, 100, 32, 97, 116, 32, 98, 117, 115, 121] : List Int).getD (18 + i) 0 = ([108, 101, 97, 114, 110, 116] : List Int).getD i 0 := by decide
    exact (hz (18 + i) (by have hi : i < 6 := hi; show 18 + i < 39; omega)).trans (q i hi)
  refine l_word (d := d) (z := 7) (ln := 39) (kw := [115, 111, 97, 107, 101, 100]) (p := 25) (j := 4) hS hB hT hs (sh_7 hS) (by decide) (by decide) (fun i hi => ?_) (by decide) (Or.inr ⟨by decide, hz 31 (by decide)⟩) (fun e => by rw [e]; rfl) (fun n4 => ?_)
  · have q : ∀ i, i < 6 → ([110, 105, 103, 104, 116, 32, 100, 111, 110, 101, 32, 108, 97, 116, 101, 115, 116, 32, 108, 101, 97, 114, 110, 116, 32, 115, 111, 97, 107, 101, 100, 32, 97, 116, 32, 98, 117, 115, 121] : List Int).getD (25 + i) 0 = ([115, 111, 97, 107, 101, 100] : List Int).getD i 0 := by decide
    exact (hz (25 + i) (by have hi : i < 6 := hi; show 25 + i < 39; omega)).trans (q i hi)
  refine l_word (d := d) (z := 7) (ln := 39) (kw := [97, 116]) (p := 32) (j := 5) hS hB hT hs (sh_7 hS) (by decide) (by decide) (fun i hi => ?_) (by decide) (Or.inr ⟨by decide, hz 34 (by decide)⟩) (fun e => by rw [e]; rfl) (fun n5 => ?_)
  · have q : ∀ i, i < 2 → ([110, 105, 103, 104, 116, 32, 100, 111, 110, 101, 32, 108, 97, 116, 101, 115, 116, 32, 108, 101, 97, 114, 110, 116, 32, 115, 111, 97, 107, 101, 100, 32, 97, 116, 32, 98, 117, 115, 121] : List Int).getD (32 + i) 0 = ([97, 116] : List Int).getD i 0 := by decide
    exact (hz (32 + i) (by have hi : i < 2 := hi; show 32 + i < 39; omega)).trans (q i hi)
  refine l_word (d := d) (z := 7) (ln := 39) (kw := [98, 117, 115, 121]) (p := 35) (j := 6) hS hB hT hs (sh_7 hS) (by decide) (by decide) (fun i hi => ?_) (by decide) (Or.inl rfl) (fun e => by rw [e]; rfl) (fun n6 => ?_)
  · have q : ∀ i, i < 4 → ([110, 105, 103, 104, 116, 32, 100, 111, 110, 101, 32, 108, 97, 116, 101, 115, 116, 32, 108, 101, 97, 114, 110, 116, 32, 115, 111, 97, 107, 101, 100, 32, 97, 116, 32, 98, 117, 115, 121] : List Int).getD (35 + i) 0 = ([98, 117, 115, 121] : List Int).getD i 0 := by decide
    exact (hz (35 + i) (by have hi : i < 4 := hi; show 35 + i < 39; omega)).trans (q i hi)
  refine ex_4_5 (ex_6_1 (ix_50 (sh_7 hS) rfl (ex_ic4 (fun _ => ?_) (fun hc => by exfalso; revert hc; decide))))
  exact ex_0 (ex_53 (by simp only [ooI, if_neg n0, if_neg n1, if_neg n2, if_neg n3, if_neg n4, if_neg n5, if_neg n6]))
theorem k_ov_7 {d : Nat} {G : am_G} {I : Nat → Nat → Int} {P : Nat → Nat → Option Nat} (hS : ST G P) (hK : KS I) {b : Nat → Int} {n : Nat} (hB : TB b n) {s : Nat} (hT : TK I P b n s) (hs : s ≤ n) {v : Int} (h : ooI [[110, 105, 103, 104, 116], [100, 111, 110, 101], [108, 97, 116, 101, 115, 116], [108, 101, 97, 114, 110, 116], [115, 111, 97, 107, 101, 100], [97, 116], [98, 117, 115, 121]] 0 (tk b n s) = v) : am_call am_B am_M (d + 1) 104 [.inr (.inr (some 169)), .inr (.inr (some 7))] (G, I, P) = some (some (.inl v), (G, I, P)) := h ▸ k_oo_7 hS hK hB hT hs
theorem k_oo_8 {d : Nat} {G : am_G} {I : Nat → Nat → Int} {P : Nat → Nat → Option Nat} (hS : ST G P) (hK : KS I) {b : Nat → Int} {n : Nat} (hB : TB b n) {s : Nat} (hT : TK I P b n s) (hs : s ≤ n) : am_call am_B am_M (d + 1) 104 [.inr (.inr (some 169)), .inr (.inr (some 8))] (G, I, P) = some (some (.inl (ooI [[99, 108, 111, 117, 100], [107, 105, 110, 100], [114, 97, 103, 101], [98, 111, 120], [102, 111, 108, 107], [107, 110, 111, 119, 115], [119, 101, 116], [110, 105, 103, 104, 116], [109, 111, 111, 100]] 0 (tk b n s))), (G, I, P)) := by
  have hz := hK.1 5 _ rfl
  refine am_doL (L := [some (.inr (.inr (some 169))), some (.inr (.inr (some 8))), none, none, none, none]) (Nat.le_of_ble_eq_true rfl) rfl ?_
  refine ex_0 (ex_7_2 rfl (ex_6_0 (ix_41i (v := (s : Int)) (sh_169 hS) hT.2.2.1 (ex_7_3 rfl (ex_0 (ex_7_4 rfl (ex_0 (ex_7_5 rfl (ex_58 ?_)))))))))
  refine l_word (d := d) (z := 8) (ln := 45) (kw := [99, 108, 111, 117, 100]) (p := 0) (j := 0) hS hB hT hs (sh_8 hS) (by decide) (by decide) (fun i hi => ?_) (by decide) (Or.inr ⟨by decide, hz 5 (by decide)⟩) (fun e => by rw [e]; rfl) (fun n0 => ?_)
  · have q : ∀ i, i < 5 → ([99, 108, 111, 117, 100, 32, 107, 105, 110, 100, 32, 114, 97, 103, 101, 32, 98, 111, 120, 32, 102, 111, 108, 107, 32, 107, 110, 111, 119, 115, 32, 119, 101, 116, 32, 110, 105, 103, 104, 116, 32, 109, 111, 111, 100] : List Int).getD (0 + i) 0 = ([99, 108, 111, 117, 100] : List Int).getD i 0 := by decide
    exact (hz (0 + i) (by have hi : i < 5 := hi; show 0 + i < 45; omega)).trans (q i hi)
  refine l_word (d := d) (z := 8) (ln := 45) (kw := [107, 105, 110, 100]) (p := 6) (j := 1) hS hB hT hs (sh_8 hS) (by decide) (by decide) (fun i hi => ?_) (by decide) (Or.inr ⟨by decide, hz 10 (by decide)⟩) (fun e => by rw [e]; rfl) (fun n1 => ?_)
  · have q : ∀ i, i < 4 → ([99, 108, 111, 117, 100, 32, 107, 105, 110, 100, 32, 114, 97, 103, 101, 32, 98, 111, 120, 32, 102, 111, 108, 107, 32, 107, 110, 111, 119, 115, 32, 119, 101, 116, 32, 110, 105, 103, 104, 116, 32, 109, 111, 111, 100] : List Int).getD (6 + i) 0 = ([107, 105, 110, 100] : List Int).getD i 0 := by decide
    exact (hz (6 + i) (by have hi : i < 4 := hi; show 6 + i < 45; omega)).trans (q i hi)
  refine l_word (d := d) (z := 8) (ln := 45) (kw := [114, 97, 103, 101]) (p := 11) (j := 2) hS hB hT hs (sh_8 hS) (by decide) (by decide) (fun i hi => ?_) (by decide) (Or.inr ⟨by decide, hz 15 (by decide)⟩) (fun e => by rw [e]; rfl) (fun n2 => ?_)
  · have q : ∀ i, i < 4 → ([99, 108, 111, 117, 100, 32, 107, 105, 110, 100, 32, 114, 97, 103, 101, 32, 98, 111, 120, 32, 102, 111, 108, 107, 32, 107, 110, 111, 119, 115, 32, 119, 101, 116, 32, 110, 105, 103, 104, 116, 32, 109, 111, 111, 100] : List Int).getD (11 + i) 0 = ([114, 97, 103, 101] : List Int).getD i 0 := by decide
    exact (hz (11 + i) (by have hi : i < 4 := hi; show 11 + i < 45; omega)).trans (q i hi)
  refine l_word (d := d) (z := 8) (ln := 45) (kw := [98, 111, 120]) (p := 16) (j := 3) hS hB hT hs (sh_8 hS) (by decide) (by decide) (fun i hi => ?_) (by decide) (Or.inr ⟨by decide, hz 19 (by decide)⟩) (fun e => by rw [e]; rfl) (fun n3 => ?_)
  · have q : ∀ i, i < 3 → ([99, 108, 111, 117, 100, 32, 107, 105, 110, 100, 32, 114, 97, 103, 101, 32, 98, 111, 120, 32, 102, 111, 108, 107, 32, 107, 110, 111, 119, 115, 32, 119, 101, 116, 32, 110, 105, 103, 104, 116, 32, 109, 111, 111, 100] : List Int).getD (16 + i) 0 = ([98, 111, 120] : List Int).getD i 0 := by decide
    exact (hz (16 + i) (by have hi : i < 3 := hi; show 16 + i < 45; omega)).trans (q i hi)
  refine l_word (d := d) (z := 8) (ln := 45) (kw := [102, 111, 108, 107]) (p := 20) (j := 4) hS hB hT hs (sh_8 hS) (by decide) (by decide) (fun i hi => ?_) (by decide) (Or.inr ⟨by decide, hz 24 (by decide)⟩) (fun e => by rw [e]; rfl) (fun n4 => ?_)
  · have q : ∀ i, i < 4 → ([99, 108, 111, 117, 100, 32, 107, 105, 110, 100, 32, 114, 97, 103, 101, 32, 98, 111, 120, 32, 102, 111, 108, 107, 32, 107, 110, 111, 119, 115, 32, 119, 101, 116, 32, 110, 105, 103, 104, 116, 32, 109, 111, 111, 100] : List Int).getD (20 + i) 0 = ([102, 111, 108, 107] : List Int).getD i 0 := by decide
    exact (hz (20 + i) (by have hi : i < 4 := hi; show 20 + i < 45; omega)).trans (q i hi)
  refine l_word (d := d) (z := 8) (ln := 45) (kw := [107, 110, 111, 119, 115]) (p := 25) (j := 5) hS hB hT hs (sh_8 hS) (by decide) (by decide) (fun i hi => ?_) (by decide) (Or.inr ⟨by decide, hz 30 (by decide)⟩) (fun e => by rw [e]; rfl) (fun n5 => ?_)
  · have q : ∀ i, i < 5 → ([99, 108, 111, 117, 100, 32, 107, 105, 110, 100, 32, 114, 97, 103, 101, 32, 98, 111, 120, 32, 102, 111, 108, 107, 32, 107, 110, 111, 119, 115, 32, 119, 101, 116, 32, 110, 105, 103, 104, 116, 32, 109, 111, 111, 100] : List Int).getD (25 + i) 0 = ([107, 110, 111, 119, 115] : List Int).getD i 0 := by decide
    exact (hz (25 + i) (by have hi : i < 5 := hi; show 25 + i < 45; omega)).trans (q i hi)
  refine l_word (d := d) (z := 8) (ln := 45) (kw := [119, 101, 116]) (p := 31) (j := 6) hS hB hT hs (sh_8 hS) (by decide) (by decide) (fun i hi => ?_) (by decide) (Or.inr ⟨by decide, hz 34 (by decide)⟩) (fun e => by rw [e]; rfl) (fun n6 => ?_)
  · have q : ∀ i, i < 3 → ([99, 108, 111, 117, 100, 32, 107, 105, 110, 100, 32, 114, 97, 103, 101, 32, 98, 111, 120, 32, 102, 111, 108, 107, 32, 107, 110, 111, 119, 115, 32, 119, 101, 116, 32, 110, 105, 103, 104, 116, 32, 109, 111, 111, 100] : List Int).getD (31 + i) 0 = ([119, 101, 116] : List Int).getD i 0 := by decide
    exact (hz (31 + i) (by have hi : i < 3 := hi; show 31 + i < 45; omega)).trans (q i hi)
  refine l_word (d := d) (z := 8) (ln := 45) (kw := [110, 105, 103, 104, 116]) (p := 35) (j := 7) hS hB hT hs (sh_8 hS) (by decide) (by decide) (fun i hi => ?_) (by decide) (Or.inr ⟨by decide, hz 40 (by decide)⟩) (fun e => by rw [e]; rfl) (fun n7 => ?_)
  · have q : ∀ i, i < 5 → ([99, 108, 111, 117, 100, 32, 107, 105, 110, 100, 32, 114, 97, 103, 101, 32, 98, 111, 120, 32, 102, 111, 108, 107, 32, 107, 110, 111, 119, 115, 32, 119, 101, 116, 32, 110, 105, 103, 104, 116, 32, 109, 111, 111, 100] : List Int).getD (35 + i) 0 = ([110, 105, 103, 104, 116] : List Int).getD i 0 := by decide
    exact (hz (35 + i) (by have hi : i < 5 := hi; show 35 + i < 45; omega)).trans (q i hi)
  refine l_word (d := d) (z := 8) (ln := 45) (kw := [109, 111, 111, 100]) (p := 41) (j := 8) hS hB hT hs (sh_8 hS) (by decide) (by decide) (fun i hi => ?_) (by decide) (Or.inl rfl) (fun e => by rw [e]; rfl) (fun n8 => ?_)
  · have q : ∀ i, i < 4 → ([99, 108, 111, 117, 100, 32, 107, 105, 110, 100, 32, 114, 97, 103, 101, 32, 98, 111, 120, 32, 102, 111, 108, 107, 32, 107, 110, 111, 119, 115, 32, 119, 101, 116, 32, 110, 105, 103, 104, 116, 32, 109, 111, 111, 100] : List Int).getD (41 + i) 0 = ([109, 111, 111, 100] : List Int).getD i 0 := by decide
    exact (hz (41 + i) (by have hi : i < 4 := hi; show 41 + i < 45; omega)).trans (q i hi)
  refine ex_4_5 (ex_6_1 (ix_50 (sh_8 hS) rfl (ex_ic4 (fun _ => ?_) (fun hc => by exfalso; revert hc; decide))))
  exact ex_0 (ex_53 (by simp only [ooI, if_neg n0, if_neg n1, if_neg n2, if_neg n3, if_neg n4, if_neg n5, if_neg n6, if_neg n7, if_neg n8]))
theorem k_ov_8 {d : Nat} {G : am_G} {I : Nat → Nat → Int} {P : Nat → Nat → Option Nat} (hS : ST G P) (hK : KS I) {b : Nat → Int} {n : Nat} (hB : TB b n) {s : Nat} (hT : TK I P b n s) (hs : s ≤ n) {v : Int} (h : ooI [[99, 108, 111, 117, 100], [107, 105, 110, 100], [114, 97, 103, 101], [98, 111, 120], [102, 111, 108, 107], [107, 110, 111, 119, 115], [119, 101, 116], [110, 105, 103, 104, 116], [109, 111, 111, 100]] 0 (tk b n s) = v) : am_call am_B am_M (d + 1) 104 [.inr (.inr (some 169)), .inr (.inr (some 8))] (G, I, P) = some (some (.inl v), (G, I, P)) := h ▸ k_oo_8 hS hK hB hT hs
theorem k_oo_9 {d : Nat} {G : am_G} {I : Nat → Nat → Int} {P : Nat → Nat → Option Nat} (hS : ST G P) (hK : KS I) {b : Nat → Int} {n : Nat} (hB : TB b n) {s : Nat} (hT : TK I P b n s) (hs : s ≤ n) : am_call am_B am_M (d + 1) 104 [.inr (.inr (some 169)), .inr (.inr (some 9))] (G, I, P) = some (some (.inl (ooI [[42], [47], [37]] 0 (tk b n s))), (G, I, P)) := by
  have hz := hK.1 6 _ rfl
  refine am_doL (L := [some (.inr (.inr (some 169))), some (.inr (.inr (some 9))), none, none, none, none]) (Nat.le_of_ble_eq_true rfl) rfl ?_
  refine ex_0 (ex_7_2 rfl (ex_6_0 (ix_41i (v := (s : Int)) (sh_169 hS) hT.2.2.1 (ex_7_3 rfl (ex_0 (ex_7_4 rfl (ex_0 (ex_7_5 rfl (ex_58 ?_)))))))))
  refine l_word (d := d) (z := 9) (ln := 5) (kw := [42]) (p := 0) (j := 0) hS hB hT hs (sh_9 hS) (by decide) (by decide) (fun i hi => ?_) (by decide) (Or.inr ⟨by decide, hz 1 (by decide)⟩) (fun e => by rw [e]; rfl) (fun n0 => ?_)
  · have q : ∀ i, i < 1 → ([42, 32, 47, 32, 37] : List Int).getD (0 + i) 0 = ([42] : List Int).getD i 0 := by decide
    exact (hz (0 + i) (by have hi : i < 1 := hi; show 0 + i < 5; omega)).trans (q i hi)
  refine l_word (d := d) (z := 9) (ln := 5) (kw := [47]) (p := 2) (j := 1) hS hB hT hs (sh_9 hS) (by decide) (by decide) (fun i hi => ?_) (by decide) (Or.inr ⟨by decide, hz 3 (by decide)⟩) (fun e => by rw [e]; rfl) (fun n1 => ?_)
  · have q : ∀ i, i < 1 → ([42, 32, 47, 32, 37] : List Int).getD (2 + i) 0 = ([47] : List Int).getD i 0 := by decide
    exact (hz (2 + i) (by have hi : i < 1 := hi; show 2 + i < 5; omega)).trans (q i hi)
  refine l_word (d := d) (z := 9) (ln := 5) (kw := [37]) (p := 4) (j := 2) hS hB hT hs (sh_9 hS) (by decide) (by decide) (fun i hi => ?_) (by decide) (Or.inl rfl) (fun e => by rw [e]; rfl) (fun n2 => ?_)
  · have q : ∀ i, i < 1 → ([42, 32, 47, 32, 37] : List Int).getD (4 + i) 0 = ([37] : List Int).getD i 0 := by decide
    exact (hz (4 + i) (by have hi : i < 1 := hi; show 4 + i < 5; omega)).trans (q i hi)
  refine ex_4_5 (ex_6_1 (ix_50 (sh_9 hS) rfl (ex_ic4 (fun _ => ?_) (fun hc => by exfalso; revert hc; decide))))
  exact ex_0 (ex_53 (by simp only [ooI, if_neg n0, if_neg n1, if_neg n2]))
theorem k_ov_9 {d : Nat} {G : am_G} {I : Nat → Nat → Int} {P : Nat → Nat → Option Nat} (hS : ST G P) (hK : KS I) {b : Nat → Int} {n : Nat} (hB : TB b n) {s : Nat} (hT : TK I P b n s) (hs : s ≤ n) {v : Int} (h : ooI [[42], [47], [37]] 0 (tk b n s) = v) : am_call am_B am_M (d + 1) 104 [.inr (.inr (some 169)), .inr (.inr (some 9))] (G, I, P) = some (some (.inl v), (G, I, P)) := h ▸ k_oo_9 hS hK hB hT hs
theorem k_oo_10 {d : Nat} {G : am_G} {I : Nat → Nat → Int} {P : Nat → Nat → Option Nat} (hS : ST G P) (hK : KS I) {b : Nat → Int} {n : Nat} (hB : TB b n) {s : Nat} (hT : TK I P b n s) (hs : s ≤ n) : am_call am_B am_M (d + 1) 104 [.inr (.inr (some 169)), .inr (.inr (some 10))] (G, I, P) = some (some (.inl (ooI [[43], [45]] 0 (tk b n s))), (G, I, P)) := by
  have hz := hK.1 7 _ rfl
  refine am_doL (L := [some (.inr (.inr (some 169))), some (.inr (.inr (some 10))), none, none, none, none]) (Nat.le_of_ble_eq_true rfl) rfl ?_
  refine ex_0 (ex_7_2 rfl (ex_6_0 (ix_41i (v := (s : Int)) (sh_169 hS) hT.2.2.1 (ex_7_3 rfl (ex_0 (ex_7_4 rfl (ex_0 (ex_7_5 rfl (ex_58 ?_)))))))))
  refine l_word (d := d) (z := 10) (ln := 3) (kw := [43]) (p := 0) (j := 0) hS hB hT hs (sh_10 hS) (by decide) (by decide) (fun i hi => ?_) (by decide) (Or.inr ⟨by decide, hz 1 (by decide)⟩) (fun e => by rw [e]; rfl) (fun n0 => ?_)
  · have q : ∀ i, i < 1 → ([43, 32, 45] : List Int).getD (0 + i) 0 = ([43] : List Int).getD i 0 := by decide
    exact (hz (0 + i) (by have hi : i < 1 := hi; show 0 + i < 3; omega)).trans (q i hi)
  refine l_word (d := d) (z := 10) (ln := 3) (kw := [45]) (p := 2) (j := 1) hS hB hT hs (sh_10 hS) (by decide) (by decide) (fun i hi => ?_) (by decide) (Or.inl rfl) (fun e => by rw [e]; rfl) (fun n1 => ?_)
  · have q : ∀ i, i < 1 → ([43, 32, 45] : List Int).getD (2 + i) 0 = ([45] : List Int).getD i 0 := by decide
    exact (hz (2 + i) (by have hi : i < 1 := hi; show 2 + i < 3; omega)).trans (q i hi)
  refine ex_4_5 (ex_6_1 (ix_50 (sh_10 hS) rfl (ex_ic4 (fun _ => ?_) (fun hc => by exfalso; revert hc; decide))))
  exact ex_0 (ex_53 (by simp only [ooI, if_neg n0, if_neg n1]))
theorem k_ov_10 {d : Nat} {G : am_G} {I : Nat → Nat → Int} {P : Nat → Nat → Option Nat} (hS : ST G P) (hK : KS I) {b : Nat → Int} {n : Nat} (hB : TB b n) {s : Nat} (hT : TK I P b n s) (hs : s ≤ n) {v : Int} (h : ooI [[43], [45]] 0 (tk b n s) = v) : am_call am_B am_M (d + 1) 104 [.inr (.inr (some 169)), .inr (.inr (some 10))] (G, I, P) = some (some (.inl v), (G, I, P)) := h ▸ k_oo_10 hS hK hB hT hs
theorem k_oo_11 {d : Nat} {G : am_G} {I : Nat → Nat → Int} {P : Nat → Nat → Option Nat} (hS : ST G P) (hK : KS I) {b : Nat → Int} {n : Nat} (hB : TB b n) {s : Nat} (hT : TK I P b n s) (hs : s ≤ n) : am_call am_B am_M (d + 1) 104 [.inr (.inr (some 169)), .inr (.inr (some 11))] (G, I, P) = some (some (.inl (ooI [[116, 111]] 0 (tk b n s))), (G, I, P)) := by
  have hz := hK.1 8 _ rfl
  refine am_doL (L := [some (.inr (.inr (some 169))), some (.inr (.inr (some 11))), none, none, none, none]) (Nat.le_of_ble_eq_true rfl) rfl ?_
  refine ex_0 (ex_7_2 rfl (ex_6_0 (ix_41i (v := (s : Int)) (sh_169 hS) hT.2.2.1 (ex_7_3 rfl (ex_0 (ex_7_4 rfl (ex_0 (ex_7_5 rfl (ex_58 ?_)))))))))
  refine l_word (d := d) (z := 11) (ln := 2) (kw := [116, 111]) (p := 0) (j := 0) hS hB hT hs (sh_11 hS) (by decide) (by decide) (fun i hi => ?_) (by decide) (Or.inl rfl) (fun e => by rw [e]; rfl) (fun n0 => ?_)
  · exact (congrArg (I 11) (by omega)).trans (hz i hi)
  refine ex_4_5 (ex_6_1 (ix_50 (sh_11 hS) rfl (ex_ic4 (fun _ => ?_) (fun hc => by exfalso; revert hc; decide))))
  exact ex_0 (ex_53 (by simp only [ooI, if_neg n0]))
theorem k_ov_11 {d : Nat} {G : am_G} {I : Nat → Nat → Int} {P : Nat → Nat → Option Nat} (hS : ST G P) (hK : KS I) {b : Nat → Int} {n : Nat} (hB : TB b n) {s : Nat} (hT : TK I P b n s) (hs : s ≤ n) {v : Int} (h : ooI [[116, 111]] 0 (tk b n s) = v) : am_call am_B am_M (d + 1) 104 [.inr (.inr (some 169)), .inr (.inr (some 11))] (G, I, P) = some (some (.inl v), (G, I, P)) := h ▸ k_oo_11 hS hK hB hT hs
theorem k_oo_12 {d : Nat} {G : am_G} {I : Nat → Nat → Int} {P : Nat → Nat → Option Nat} (hS : ST G P) (hK : KS I) {b : Nat → Int} {n : Nat} (hB : TB b n) {s : Nat} (hT : TK I P b n s) (hs : s ≤ n) : am_call am_B am_M (d + 1) 104 [.inr (.inr (some 169)), .inr (.inr (some 12))] (G, I, P) = some (some (.inl (ooI [[116, 105, 109, 101, 115]] 0 (tk b n s))), (G, I, P)) := by
  have hz := hK.1 9 _ rfl
  refine am_doL (L := [some (.inr (.inr (some 169))), some (.inr (.inr (some 12))), none, none, none, none]) (Nat.le_of_ble_eq_true rfl) rfl ?_
  refine ex_0 (ex_7_2 rfl (ex_6_0 (ix_41i (v := (s : Int)) (sh_169 hS) hT.2.2.1 (ex_7_3 rfl (ex_0 (ex_7_4 rfl (ex_0 (ex_7_5 rfl (ex_58 ?_)))))))))
  refine l_word (d := d) (z := 12) (ln := 5) (kw := [116, 105, 109, 101, 115]) (p := 0) (j := 0) hS hB hT hs (sh_12 hS) (by decide) (by decide) (fun i hi => ?_) (by decide) (Or.inl rfl) (fun e => by rw [e]; rfl) (fun n0 => ?_)
  · exact (congrArg (I 12) (by omega)).trans (hz i hi)
  refine ex_4_5 (ex_6_1 (ix_50 (sh_12 hS) rfl (ex_ic4 (fun _ => ?_) (fun hc => by exfalso; revert hc; decide))))
  exact ex_0 (ex_53 (by simp only [ooI, if_neg n0]))
theorem k_ov_12 {d : Nat} {G : am_G} {I : Nat → Nat → Int} {P : Nat → Nat → Option Nat} (hS : ST G P) (hK : KS I) {b : Nat → Int} {n : Nat} (hB : TB b n) {s : Nat} (hT : TK I P b n s) (hs : s ≤ n) {v : Int} (h : ooI [[116, 105, 109, 101, 115]] 0 (tk b n s) = v) : am_call am_B am_M (d + 1) 104 [.inr (.inr (some 169)), .inr (.inr (some 12))] (G, I, P) = some (some (.inl v), (G, I, P)) := h ▸ k_oo_12 hS hK hB hT hs
theorem k_oo_13 {d : Nat} {G : am_G} {I : Nat → Nat → Int} {P : Nat → Nat → Option Nat} (hS : ST G P) (hK : KS I) {b : Nat → Int} {n : Nat} (hB : TB b n) {s : Nat} (hT : TK I P b n s) (hs : s ≤ n) : am_call am_B am_M (d + 1) 104 [.inr (.inr (some 169)), .inr (.inr (some 13))] (G, I, P) = some (some (.inl (ooI [[105, 102]] 0 (tk b n s))), (G, I, P)) := by
  have hz := hK.1 10 _ rfl
  refine am_doL (L := [some (.inr (.inr (some 169))), some (.inr (.inr (some 13))), none, none, none, none]) (Nat.le_of_ble_eq_true rfl) rfl ?_
  refine ex_0 (ex_7_2 rfl (ex_6_0 (ix_41i (v := (s : Int)) (sh_169 hS) hT.2.2.1 (ex_7_3 rfl (ex_0 (ex_7_4 rfl (ex_0 (ex_7_5 rfl (ex_58 ?_)))))))))
  refine l_word (d := d) (z := 13) (ln := 2) (kw := [105, 102]) (p := 0) (j := 0) hS hB hT hs (sh_13 hS) (by decide) (by decide) (fun i hi => ?_) (by decide) (Or.inl rfl) (fun e => by rw [e]; rfl) (fun n0 => ?_)
  · exact (congrArg (I 13) (by omega)).trans (hz i hi)
  refine ex_4_5 (ex_6_1 (ix_50 (sh_13 hS) rfl (ex_ic4 (fun _ => ?_) (fun hc => by exfalso; revert hc; decide))))
  exact ex_0 (ex_53 (by simp only [ooI, if_neg n0]))
theorem k_ov_13 {d : Nat} {G : am_G} {I : Nat → Nat → Int} {P : Nat → Nat → Option Nat} (hS : ST G P) (hK : KS I) {b : Nat → Int} {n : Nat} (hB : TB b n) {s : Nat} (hT : TK I P b n s) (hs : s ≤ n) {v : Int} (h : ooI [[105, 102]] 0 (tk b n s) = v) : am_call am_B am_M (d + 1) 104 [.inr (.inr (some 169)), .inr (.inr (some 13))] (G, I, P) = some (some (.inl v), (G, I, P)) := h ▸ k_oo_13 hS hK hB hT hs
theorem k_oo_14 {d : Nat} {G : am_G} {I : Nat → Nat → Int} {P : Nat → Nat → Option Nat} (hS : ST G P) (hK : KS I) {b : Nat → Int} {n : Nat} (hB : TB b n) {s : Nat} (hT : TK I P b n s) (hs : s ≤ n) : am_call am_B am_M (d + 1) 104 [.inr (.inr (some 169)), .inr (.inr (some 14))] (G, I, P) = some (some (.inl (ooI [[110, 111, 116]] 0 (tk b n s))), (G, I, P)) := by
  have hz := hK.1 11 _ rfl
  refine am_doL (L := [some (.inr (.inr (some 169))), some (.inr (.inr (some 14))), none, none, none, none]) (Nat.le_of_ble_eq_true rfl) rfl ?_
  refine ex_0 (ex_7_2 rfl (ex_6_0 (ix_41i (v := (s : Int)) (sh_169 hS) hT.2.2.1 (ex_7_3 rfl (ex_0 (ex_7_4 rfl (ex_0 (ex_7_5 rfl (ex_58 ?_)))))))))
  refine l_word (d := d) (z := 14) (ln := 3) (kw := [110, 111, 116]) (p := 0) (j := 0) hS hB hT hs (sh_14 hS) (by decide) (by decide) (fun i hi => ?_) (by decide) (Or.inl rfl) (fun e => by rw [e]; rfl) (fun n0 => ?_)
  · exact (congrArg (I 14) (by omega)).trans (hz i hi)
  refine ex_4_5 (ex_6_1 (ix_50 (sh_14 hS) rfl (ex_ic4 (fun _ => ?_) (fun hc => by exfalso; revert hc; decide))))
  exact ex_0 (ex_53 (by simp only [ooI, if_neg n0]))
theorem k_ov_14 {d : Nat} {G : am_G} {I : Nat → Nat → Int} {P : Nat → Nat → Option Nat} (hS : ST G P) (hK : KS I) {b : Nat → Int} {n : Nat} (hB : TB b n) {s : Nat} (hT : TK I P b n s) (hs : s ≤ n) {v : Int} (h : ooI [[110, 111, 116]] 0 (tk b n s) = v) : am_call am_B am_M (d + 1) 104 [.inr (.inr (some 169)), .inr (.inr (some 14))] (G, I, P) = some (some (.inl v), (G, I, P)) := h ▸ k_oo_14 hS hK hB hT hs
theorem k_oo_15 {d : Nat} {G : am_G} {I : Nat → Nat → Int} {P : Nat → Nat → Option Nat} (hS : ST G P) (hK : KS I) {b : Nat → Int} {n : Nat} (hB : TB b n) {s : Nat} (hT : TK I P b n s) (hs : s ≤ n) : am_call am_B am_M (d + 1) 104 [.inr (.inr (some 169)), .inr (.inr (some 15))] (G, I, P) = some (some (.inl (ooI [[40]] 0 (tk b n s))), (G, I, P)) := by
  have hz := hK.1 12 _ rfl
  refine am_doL (L := [some (.inr (.inr (some 169))), some (.inr (.inr (some 15))), none, none, none, none]) (Nat.le_of_ble_eq_true rfl) rfl ?_
  refine ex_0 (ex_7_2 rfl (ex_6_0 (ix_41i (v := (s : Int)) (sh_169 hS) hT.2.2.1 (ex_7_3 rfl (ex_0 (ex_7_4 rfl (ex_0 (ex_7_5 rfl (ex_58 ?_)))))))))
  refine l_word (d := d) (z := 15) (ln := 1) (kw := [40]) (p := 0) (j := 0) hS hB hT hs (sh_15 hS) (by decide) (by decide) (fun i hi => ?_) (by decide) (Or.inl rfl) (fun e => by rw [e]; rfl) (fun n0 => ?_)
  · exact (congrArg (I 15) (by omega)).trans (hz i hi)
  refine ex_4_5 (ex_6_1 (ix_50 (sh_15 hS) rfl (ex_ic4 (fun _ => ?_) (fun hc => by exfalso; revert hc; decide))))
  exact ex_0 (ex_53 (by simp only [ooI, if_neg n0]))
theorem k_ov_15 {d : Nat} {G : am_G} {I : Nat → Nat → Int} {P : Nat → Nat → Option Nat} (hS : ST G P) (hK : KS I) {b : Nat → Int} {n : Nat} (hB : TB b n) {s : Nat} (hT : TK I P b n s) (hs : s ≤ n) {v : Int} (h : ooI [[40]] 0 (tk b n s) = v) : am_call am_B am_M (d + 1) 104 [.inr (.inr (some 169)), .inr (.inr (some 15))] (G, I, P) = some (some (.inl v), (G, I, P)) := h ▸ k_oo_15 hS hK hB hT hs
theorem k_oo_16 {d : Nat} {G : am_G} {I : Nat → Nat → Int} {P : Nat → Nat → Option Nat} (hS : ST G P) (hK : KS I) {b : Nat → Int} {n : Nat} (hB : TB b n) {s : Nat} (hT : TK I P b n s) (hs : s ≤ n) : am_call am_B am_M (d + 1) 104 [.inr (.inr (some 169)), .inr (.inr (some 16))] (G, I, P) = some (some (.inl (ooI [[41]] 0 (tk b n s))), (G, I, P)) := by
  have hz := hK.1 13 _ rfl
  refine am_doL (L := [some (.inr (.inr (some 169))), some (.inr (.inr (some 16))), none, none, none, none]) (Nat.le_of_ble_eq_true rfl) rfl ?_
  refine ex_0 (ex_7_2 rfl (ex_6_0 (ix_41i (v := (s : Int)) (sh_169 hS) hT.2.2.1 (ex_7_3 rfl (ex_0 (ex_7_4 rfl (ex_0 (ex_7_5 rfl (ex_58 ?_)))))))))
  refine l_word (d := d) (z := 16) (ln := 1) (kw := [41]) (p := 0) (j := 0) hS hB hT hs (sh_16 hS) (by decide) (by decide) (fun i hi => ?_) (by decide) (Or.inl rfl) (fun e => by rw [e]; rfl) (fun n0 => ?_)
  · exact (congrArg (I 16) (by omega)).trans (hz i hi)
  refine ex_4_5 (ex_6_1 (ix_50 (sh_16 hS) rfl (ex_ic4 (fun _ => ?_) (fun hc => by exfalso; revert hc; decide))))
  exact ex_0 (ex_53 (by simp only [ooI, if_neg n0]))
theorem k_ov_16 {d : Nat} {G : am_G} {I : Nat → Nat → Int} {P : Nat → Nat → Option Nat} (hS : ST G P) (hK : KS I) {b : Nat → Int} {n : Nat} (hB : TB b n) {s : Nat} (hT : TK I P b n s) (hs : s ≤ n) {v : Int} (h : ooI [[41]] 0 (tk b n s) = v) : am_call am_B am_M (d + 1) 104 [.inr (.inr (some 169)), .inr (.inr (some 16))] (G, I, P) = some (some (.inl v), (G, I, P)) := h ▸ k_oo_16 hS hK hB hT hs
theorem k_oo_17 {d : Nat} {G : am_G} {I : Nat → Nat → Int} {P : Nat → Nat → Option Nat} (hS : ST G P) (hK : KS I) {b : Nat → Int} {n : Nat} (hB : TB b n) {s : Nat} (hT : TK I P b n s) (hs : s ≤ n) : am_call am_B am_M (d + 1) 104 [.inr (.inr (some 169)), .inr (.inr (some 17))] (G, I, P) = some (some (.inl (ooI [[60], [62], [61]] 0 (tk b n s))), (G, I, P)) := by
  have hz := hK.1 14 _ rfl
  refine am_doL (L := [some (.inr (.inr (some 169))), some (.inr (.inr (some 17))), none, none, none, none]) (Nat.le_of_ble_eq_true rfl) rfl ?_
  refine ex_0 (ex_7_2 rfl (ex_6_0 (ix_41i (v := (s : Int)) (sh_169 hS) hT.2.2.1 (ex_7_3 rfl (ex_0 (ex_7_4 rfl (ex_0 (ex_7_5 rfl (ex_58 ?_)))))))))
  refine l_word (d := d) (z := 17) (ln := 5) (kw := [60]) (p := 0) (j := 0) hS hB hT hs (sh_17 hS) (by decide) (by decide) (fun i hi => ?_) (by decide) (Or.inr ⟨by decide, hz 1 (by decide)⟩) (fun e => by rw [e]; rfl) (fun n0 => ?_)
  · have q : ∀ i, i < 1 → ([60, 32, 62, 32, 61] : List Int).getD (0 + i) 0 = ([60] : List Int).getD i 0 := by decide
    exact (hz (0 + i) (by have hi : i < 1 := hi; show 0 + i < 5; omega)).trans (q i hi)
  refine l_word (d := d) (z := 17) (ln := 5) (kw := [62]) (p := 2) (j := 1) hS hB hT hs (sh_17 hS) (by decide) (by decide) (fun i hi => ?_) (by decide) (Or.inr ⟨by decide, hz 3 (by decide)⟩) (fun e => by rw [e]; rfl) (fun n1 => ?_)
  · have q : ∀ i, i < 1 → ([60, 32, 62, 32, 61] : List Int).getD (2 + i) 0 = ([62] : List Int).getD i 0 := by decide
    exact (hz (2 + i) (by have hi : i < 1 := hi; show 2 + i < 5; omega)).trans (q i hi)
  refine l_word (d := d) (z := 17) (ln := 5) (kw := [61]) (p := 4) (j := 2) hS hB hT hs (sh_17 hS) (by decide) (by decide) (fun i hi => ?_) (by decide) (Or.inl rfl) (fun e => by rw [e]; rfl) (fun n2 => ?_)
  · have q : ∀ i, i < 1 → ([60, 32, 62, 32, 61] : List Int).getD (4 + i) 0 = ([61] : List Int).getD i 0 := by decide
    exact (hz (4 + i) (by have hi : i < 1 := hi; show 4 + i < 5; omega)).trans (q i hi)
  refine ex_4_5 (ex_6_1 (ix_50 (sh_17 hS) rfl (ex_ic4 (fun _ => ?_) (fun hc => by exfalso; revert hc; decide))))
  exact ex_0 (ex_53 (by simp only [ooI, if_neg n0, if_neg n1, if_neg n2]))
theorem k_ov_17 {d : Nat} {G : am_G} {I : Nat → Nat → Int} {P : Nat → Nat → Option Nat} (hS : ST G P) (hK : KS I) {b : Nat → Int} {n : Nat} (hB : TB b n) {s : Nat} (hT : TK I P b n s) (hs : s ≤ n) {v : Int} (h : ooI [[60], [62], [61]] 0 (tk b n s) = v) : am_call am_B am_M (d + 1) 104 [.inr (.inr (some 169)), .inr (.inr (some 17))] (G, I, P) = some (some (.inl v), (G, I, P)) := h ▸ k_oo_17 hS hK hB hT hs
theorem k_oo_18 {d : Nat} {G : am_G} {I : Nat → Nat → Int} {P : Nat → Nat → Option Nat} (hS : ST G P) (hK : KS I) {b : Nat → Int} {n : Nat} (hB : TB b n) {s : Nat} (hT : TK I P b n s) (hs : s ≤ n) : am_call am_B am_M (d + 1) 104 [.inr (.inr (some 169)), .inr (.inr (some 18))] (G, I, P) = some (some (.inl (ooI [[97, 110, 100]] 0 (tk b n s))), (G, I, P)) := by
  have hz := hK.1 15 _ rfl
  refine am_doL (L := [some (.inr (.inr (some 169))), some (.inr (.inr (some 18))), none, none, none, none]) (Nat.le_of_ble_eq_true rfl) rfl ?_
  refine ex_0 (ex_7_2 rfl (ex_6_0 (ix_41i (v := (s : Int)) (sh_169 hS) hT.2.2.1 (ex_7_3 rfl (ex_0 (ex_7_4 rfl (ex_0 (ex_7_5 rfl (ex_58 ?_)))))))))
  refine l_word (d := d) (z := 18) (ln := 3) (kw := [97, 110, 100]) (p := 0) (j := 0) hS hB hT hs (sh_18 hS) (by decide) (by decide) (fun i hi => ?_) (by decide) (Or.inl rfl) (fun e => by rw [e]; rfl) (fun n0 => ?_)
  · exact (congrArg (I 18) (by omega)).trans (hz i hi)
  refine ex_4_5 (ex_6_1 (ix_50 (sh_18 hS) rfl (ex_ic4 (fun _ => ?_) (fun hc => by exfalso; revert hc; decide))))
  exact ex_0 (ex_53 (by simp only [ooI, if_neg n0]))
theorem k_ov_18 {d : Nat} {G : am_G} {I : Nat → Nat → Int} {P : Nat → Nat → Option Nat} (hS : ST G P) (hK : KS I) {b : Nat → Int} {n : Nat} (hB : TB b n) {s : Nat} (hT : TK I P b n s) (hs : s ≤ n) {v : Int} (h : ooI [[97, 110, 100]] 0 (tk b n s) = v) : am_call am_B am_M (d + 1) 104 [.inr (.inr (some 169)), .inr (.inr (some 18))] (G, I, P) = some (some (.inl v), (G, I, P)) := h ▸ k_oo_18 hS hK hB hT hs
theorem k_oo_19 {d : Nat} {G : am_G} {I : Nat → Nat → Int} {P : Nat → Nat → Option Nat} (hS : ST G P) (hK : KS I) {b : Nat → Int} {n : Nat} (hB : TB b n) {s : Nat} (hT : TK I P b n s) (hs : s ≤ n) : am_call am_B am_M (d + 1) 104 [.inr (.inr (some 169)), .inr (.inr (some 19))] (G, I, P) = some (some (.inl (ooI [[111, 114]] 0 (tk b n s))), (G, I, P)) := by
  have hz := hK.1 16 _ rfl
  refine am_doL (L := [some (.inr (.inr (some 169))), some (.inr (.inr (some 19))), none, none, none, none]) (Nat.le_of_ble_eq_true rfl) rfl ?_
  refine ex_0 (ex_7_2 rfl (ex_6_0 (ix_41i (v := (s : Int)) (sh_169 hS) hT.2.2.1 (ex_7_3 rfl (ex_0 (ex_7_4 rfl (ex_0 (ex_7_5 rfl (ex_58 ?_)))))))))
  refine l_word (d := d) (z := 19) (ln := 2) (kw := [111, 114]) (p := 0) (j := 0) hS hB hT hs (sh_19 hS) (by decide) (by decide) (fun i hi => ?_) (by decide) (Or.inl rfl) (fun e => by rw [e]; rfl) (fun n0 => ?_)
  · exact (congrArg (I 19) (by omega)).trans (hz i hi)
  refine ex_4_5 (ex_6_1 (ix_50 (sh_19 hS) rfl (ex_ic4 (fun _ => ?_) (fun hc => by exfalso; revert hc; decide))))
  exact ex_0 (ex_53 (by simp only [ooI, if_neg n0]))
theorem k_ov_19 {d : Nat} {G : am_G} {I : Nat → Nat → Int} {P : Nat → Nat → Option Nat} (hS : ST G P) (hK : KS I) {b : Nat → Int} {n : Nat} (hB : TB b n) {s : Nat} (hT : TK I P b n s) (hs : s ≤ n) {v : Int} (h : ooI [[111, 114]] 0 (tk b n s) = v) : am_call am_B am_M (d + 1) 104 [.inr (.inr (some 169)), .inr (.inr (some 19))] (G, I, P) = some (some (.inl v), (G, I, P)) := h ▸ k_oo_19 hS hK hB hT hs
theorem k_oo_20 {d : Nat} {G : am_G} {I : Nat → Nat → Int} {P : Nat → Nat → Option Nat} (hS : ST G P) (hK : KS I) {b : Nat → Int} {n : Nat} (hB : TB b n) {s : Nat} (hT : TK I P b n s) (hs : s ≤ n) : am_call am_B am_M (d + 1) 104 [.inr (.inr (some 169)), .inr (.inr (some 20))] (G, I, P) = some (some (.inl (ooI [[59]] 0 (tk b n s))), (G, I, P)) := by
  have hz := hK.1 17 _ rfl
  refine am_doL (L := [some (.inr (.inr (some 169))), some (.inr (.inr (some 20))), none, none, none, none]) (Nat.le_of_ble_eq_true rfl) rfl ?_
  refine ex_0 (ex_7_2 rfl (ex_6_0 (ix_41i (v := (s : Int)) (sh_169 hS) hT.2.2.1 (ex_7_3 rfl (ex_0 (ex_7_4 rfl (ex_0 (ex_7_5 rfl (ex_58 ?_)))))))))
  refine l_word (d := d) (z := 20) (ln := 1) (kw := [59]) (p := 0) (j := 0) hS hB hT hs (sh_20 hS) (by decide) (by decide) (fun i hi => ?_) (by decide) (Or.inl rfl) (fun e => by rw [e]; rfl) (fun n0 => ?_)
  · exact (congrArg (I 20) (by omega)).trans (hz i hi)
  refine ex_4_5 (ex_6_1 (ix_50 (sh_20 hS) rfl (ex_ic4 (fun _ => ?_) (fun hc => by exfalso; revert hc; decide))))
  exact ex_0 (ex_53 (by simp only [ooI, if_neg n0]))
theorem k_ov_20 {d : Nat} {G : am_G} {I : Nat → Nat → Int} {P : Nat → Nat → Option Nat} (hS : ST G P) (hK : KS I) {b : Nat → Int} {n : Nat} (hB : TB b n) {s : Nat} (hT : TK I P b n s) (hs : s ≤ n) {v : Int} (h : ooI [[59]] 0 (tk b n s) = v) : am_call am_B am_M (d + 1) 104 [.inr (.inr (some 169)), .inr (.inr (some 20))] (G, I, P) = some (some (.inl v), (G, I, P)) := h ▸ k_oo_20 hS hK hB hT hs
theorem k_is_5_t {d : Nat} {G : am_G} {I : Nat → Nat → Int} {P : Nat → Nat → Option Nat} (hS : ST G P) (hK : KS I) {b : Nat → Int} {n : Nat} (hB : TB b n) {s : Nat} (hT : TK I P b n s) (hs : s ≤ n) (h : tk b n s = [91]) : am_call am_B am_M (d + 2) 103 [(.inr (.inr (some 169))), (.inr (.inr (some 5)))] (G, I, P) = some (some (.inl 1), (G, I, P)) := by
  refine am_doL (L := [some (.inr (.inr (some 169))), some (.inr (.inr (some 5)))]) (Nat.le_of_ble_eq_true rfl) rfl ?_
  refine (ex_6_0 (ex_6_1 (ix_46 (S' := [(.inl 0)]) rfl (sh_169 hS) (k_ov_5 hS hK hB hT hs (v := 0) (by simp only [ooI, if_pos h])) rfl rfl (ex_if1 (fun hc => by exfalso; revert hc; decide) (fun _ => ?_)))))
  refine (ex_0 (ex_28 ?_))
  exact ex_57 (by decide) rfl
theorem k_is_5_f {d : Nat} {G : am_G} {I : Nat → Nat → Int} {P : Nat → Nat → Option Nat} (hS : ST G P) (hK : KS I) {b : Nat → Int} {n : Nat} (hB : TB b n) {s : Nat} (hT : TK I P b n s) (hs : s ≤ n) (h : ¬ tk b n s = [91]) : am_call am_B am_M (d + 2) 103 [(.inr (.inr (some 169))), (.inr (.inr (some 5)))] (G, I, P) = some (some (.inl 0), (G, I, P)) := by
  refine am_doL (L := [some (.inr (.inr (some 169))), some (.inr (.inr (some 5)))]) (Nat.le_of_ble_eq_true rfl) rfl ?_
  refine (ex_6_0 (ex_6_1 (ix_46 (S' := [(.inl (-1))]) rfl (sh_169 hS) (k_ov_5 hS hK hB hT hs (v := (-1)) (by simp only [ooI, if_neg h])) rfl rfl (ex_if1 (fun _ => ?_) (fun hc => by exfalso; revert hc; decide)))))
  refine (ex_0 (ex_58 ?_))
  exact ex_57 (by decide) rfl
theorem k_is_12_t {d : Nat} {G : am_G} {I : Nat → Nat → Int} {P : Nat → Nat → Option Nat} (hS : ST G P) (hK : KS I) {b : Nat → Int} {n : Nat} (hB : TB b n) {s : Nat} (hT : TK I P b n s) (hs : s ≤ n) (h : tk b n s = [116, 105, 109, 101, 115]) : am_call am_B am_M (d + 2) 103 [(.inr (.inr (some 169))), (.inr (.inr (some 12)))] (G, I, P) = some (some (.inl 1), (G, I, P)) := by
  refine am_doL (L := [some (.inr (.inr (some 169))), some (.inr (.inr (some 12)))]) (Nat.le_of_ble_eq_true rfl) rfl ?_
  refine (ex_6_0 (ex_6_1 (ix_46 (S' := [(.inl 0)]) rfl (sh_169 hS) (k_ov_12 hS hK hB hT hs (v := 0) (by simp only [ooI, if_pos h])) rfl rfl (ex_if1 (fun hc => by exfalso; revert hc; decide) (fun _ => ?_)))))
  refine (ex_0 (ex_28 ?_))
  exact ex_57 (by decide) rfl
theorem k_is_12_f {d : Nat} {G : am_G} {I : Nat → Nat → Int} {P : Nat → Nat → Option Nat} (hS : ST G P) (hK : KS I) {b : Nat → Int} {n : Nat} (hB : TB b n) {s : Nat} (hT : TK I P b n s) (hs : s ≤ n) (h : ¬ tk b n s = [116, 105, 109, 101, 115]) : am_call am_B am_M (d + 2) 103 [(.inr (.inr (some 169))), (.inr (.inr (some 12)))] (G, I, P) = some (some (.inl 0), (G, I, P)) := by
  refine am_doL (L := [some (.inr (.inr (some 169))), some (.inr (.inr (some 12)))]) (Nat.le_of_ble_eq_true rfl) rfl ?_
  refine (ex_6_0 (ex_6_1 (ix_46 (S' := [(.inl (-1))]) rfl (sh_169 hS) (k_ov_12 hS hK hB hT hs (v := (-1)) (by simp only [ooI, if_neg h])) rfl rfl (ex_if1 (fun _ => ?_) (fun hc => by exfalso; revert hc; decide)))))
  refine (ex_0 (ex_58 ?_))
  exact ex_57 (by decide) rfl
theorem k_is_13_t {d : Nat} {G : am_G} {I : Nat → Nat → Int} {P : Nat → Nat → Option Nat} (hS : ST G P) (hK : KS I) {b : Nat → Int} {n : Nat} (hB : TB b n) {s : Nat} (hT : TK I P b n s) (hs : s ≤ n) (h : tk b n s = [105, 102]) : am_call am_B am_M (d + 2) 103 [(.inr (.inr (some 169))), (.inr (.inr (some 13)))] (G, I, P) = some (some (.inl 1), (G, I, P)) := by
  refine am_doL (L := [some (.inr (.inr (some 169))), some (.inr (.inr (some 13)))]) (Nat.le_of_ble_eq_true rfl) rfl ?_
  refine (ex_6_0 (ex_6_1 (ix_46 (S' := [(.inl 0)]) rfl (sh_169 hS) (k_ov_13 hS hK hB hT hs (v := 0) (by simp only [ooI, if_pos h])) rfl rfl (ex_if1 (fun hc => by exfalso; revert hc; decide) (fun _ => ?_)))))
  refine (ex_0 (ex_28 ?_))
  exact ex_57 (by decide) rfl
theorem k_is_13_f {d : Nat} {G : am_G} {I : Nat → Nat → Int} {P : Nat → Nat → Option Nat} (hS : ST G P) (hK : KS I) {b : Nat → Int} {n : Nat} (hB : TB b n) {s : Nat} (hT : TK I P b n s) (hs : s ≤ n) (h : ¬ tk b n s = [105, 102]) : am_call am_B am_M (d + 2) 103 [(.inr (.inr (some 169))), (.inr (.inr (some 13)))] (G, I, P) = some (some (.inl 0), (G, I, P)) := by
  refine am_doL (L := [some (.inr (.inr (some 169))), some (.inr (.inr (some 13)))]) (Nat.le_of_ble_eq_true rfl) rfl ?_
  refine (ex_6_0 (ex_6_1 (ix_46 (S' := [(.inl (-1))]) rfl (sh_169 hS) (k_ov_13 hS hK hB hT hs (v := (-1)) (by simp only [ooI, if_neg h])) rfl rfl (ex_if1 (fun _ => ?_) (fun hc => by exfalso; revert hc; decide)))))
  refine (ex_0 (ex_58 ?_))
  exact ex_57 (by decide) rfl
theorem k_is_14_t {d : Nat} {G : am_G} {I : Nat → Nat → Int} {P : Nat → Nat → Option Nat} (hS : ST G P) (hK : KS I) {b : Nat → Int} {n : Nat} (hB : TB b n) {s : Nat} (hT : TK I P b n s) (hs : s ≤ n) (h : tk b n s = [110, 111, 116]) : am_call am_B am_M (d + 2) 103 [(.inr (.inr (some 169))), (.inr (.inr (some 14)))] (G, I, P) = some (some (.inl 1), (G, I, P)) := by
  refine am_doL (L := [some (.inr (.inr (some 169))), some (.inr (.inr (some 14)))]) (Nat.le_of_ble_eq_true rfl) rfl ?_
  refine (ex_6_0 (ex_6_1 (ix_46 (S' := [(.inl 0)]) rfl (sh_169 hS) (k_ov_14 hS hK hB hT hs (v := 0) (by simp only [ooI, if_pos h])) rfl rfl (ex_if1 (fun hc => by exfalso; revert hc; decide) (fun _ => ?_)))))
  refine (ex_0 (ex_28 ?_))
  exact ex_57 (by decide) rfl
theorem k_is_14_f {d : Nat} {G : am_G} {I : Nat → Nat → Int} {P : Nat → Nat → Option Nat} (hS : ST G P) (hK : KS I) {b : Nat → Int} {n : Nat} (hB : TB b n) {s : Nat} (hT : TK I P b n s) (hs : s ≤ n) (h : ¬ tk b n s = [110, 111, 116]) : am_call am_B am_M (d + 2) 103 [(.inr (.inr (some 169))), (.inr (.inr (some 14)))] (G, I, P) = some (some (.inl 0), (G, I, P)) := by
  refine am_doL (L := [some (.inr (.inr (some 169))), some (.inr (.inr (some 14)))]) (Nat.le_of_ble_eq_true rfl) rfl ?_
  refine (ex_6_0 (ex_6_1 (ix_46 (S' := [(.inl (-1))]) rfl (sh_169 hS) (k_ov_14 hS hK hB hT hs (v := (-1)) (by simp only [ooI, if_neg h])) rfl rfl (ex_if1 (fun _ => ?_) (fun hc => by exfalso; revert hc; decide)))))
  refine (ex_0 (ex_58 ?_))
  exact ex_57 (by decide) rfl
theorem k_is_15_t {d : Nat} {G : am_G} {I : Nat → Nat → Int} {P : Nat → Nat → Option Nat} (hS : ST G P) (hK : KS I) {b : Nat → Int} {n : Nat} (hB : TB b n) {s : Nat} (hT : TK I P b n s) (hs : s ≤ n) (h : tk b n s = [40]) : am_call am_B am_M (d + 2) 103 [(.inr (.inr (some 169))), (.inr (.inr (some 15)))] (G, I, P) = some (some (.inl 1), (G, I, P)) := by
  refine am_doL (L := [some (.inr (.inr (some 169))), some (.inr (.inr (some 15)))]) (Nat.le_of_ble_eq_true rfl) rfl ?_
  refine (ex_6_0 (ex_6_1 (ix_46 (S' := [(.inl 0)]) rfl (sh_169 hS) (k_ov_15 hS hK hB hT hs (v := 0) (by simp only [ooI, if_pos h])) rfl rfl (ex_if1 (fun hc => by exfalso; revert hc; decide) (fun _ => ?_)))))
  refine (ex_0 (ex_28 ?_))
  exact ex_57 (by decide) rfl
theorem k_is_15_f {d : Nat} {G : am_G} {I : Nat → Nat → Int} {P : Nat → Nat → Option Nat} (hS : ST G P) (hK : KS I) {b : Nat → Int} {n : Nat} (hB : TB b n) {s : Nat} (hT : TK I P b n s) (hs : s ≤ n) (h : ¬ tk b n s = [40]) : am_call am_B am_M (d + 2) 103 [(.inr (.inr (some 169))), (.inr (.inr (some 15)))] (G, I, P) = some (some (.inl 0), (G, I, P)) := by
  refine am_doL (L := [some (.inr (.inr (some 169))), some (.inr (.inr (some 15)))]) (Nat.le_of_ble_eq_true rfl) rfl ?_
  refine (ex_6_0 (ex_6_1 (ix_46 (S' := [(.inl (-1))]) rfl (sh_169 hS) (k_ov_15 hS hK hB hT hs (v := (-1)) (by simp only [ooI, if_neg h])) rfl rfl (ex_if1 (fun _ => ?_) (fun hc => by exfalso; revert hc; decide)))))
  refine (ex_0 (ex_58 ?_))
  exact ex_57 (by decide) rfl
theorem k_is_18_t {d : Nat} {G : am_G} {I : Nat → Nat → Int} {P : Nat → Nat → Option Nat} (hS : ST G P) (hK : KS I) {b : Nat → Int} {n : Nat} (hB : TB b n) {s : Nat} (hT : TK I P b n s) (hs : s ≤ n) (h : tk b n s = [97, 110, 100]) : am_call am_B am_M (d + 2) 103 [(.inr (.inr (some 169))), (.inr (.inr (some 18)))] (G, I, P) = some (some (.inl 1), (G, I, P)) := by
  refine am_doL (L := [some (.inr (.inr (some 169))), some (.inr (.inr (some 18)))]) (Nat.le_of_ble_eq_true rfl) rfl ?_
  refine (ex_6_0 (ex_6_1 (ix_46 (S' := [(.inl 0)]) rfl (sh_169 hS) (k_ov_18 hS hK hB hT hs (v := 0) (by simp only [ooI, if_pos h])) rfl rfl (ex_if1 (fun hc => by exfalso; revert hc; decide) (fun _ => ?_)))))
  refine (ex_0 (ex_28 ?_))
  exact ex_57 (by decide) rfl
theorem k_is_18_f {d : Nat} {G : am_G} {I : Nat → Nat → Int} {P : Nat → Nat → Option Nat} (hS : ST G P) (hK : KS I) {b : Nat → Int} {n : Nat} (hB : TB b n) {s : Nat} (hT : TK I P b n s) (hs : s ≤ n) (h : ¬ tk b n s = [97, 110, 100]) : am_call am_B am_M (d + 2) 103 [(.inr (.inr (some 169))), (.inr (.inr (some 18)))] (G, I, P) = some (some (.inl 0), (G, I, P)) := by
  refine am_doL (L := [some (.inr (.inr (some 169))), some (.inr (.inr (some 18)))]) (Nat.le_of_ble_eq_true rfl) rfl ?_
  refine (ex_6_0 (ex_6_1 (ix_46 (S' := [(.inl (-1))]) rfl (sh_169 hS) (k_ov_18 hS hK hB hT hs (v := (-1)) (by simp only [ooI, if_neg h])) rfl rfl (ex_if1 (fun _ => ?_) (fun hc => by exfalso; revert hc; decide)))))
  refine (ex_0 (ex_58 ?_))
  exact ex_57 (by decide) rfl
theorem k_is_19_t {d : Nat} {G : am_G} {I : Nat → Nat → Int} {P : Nat → Nat → Option Nat} (hS : ST G P) (hK : KS I) {b : Nat → Int} {n : Nat} (hB : TB b n) {s : Nat} (hT : TK I P b n s) (hs : s ≤ n) (h : tk b n s = [111, 114]) : am_call am_B am_M (d + 2) 103 [(.inr (.inr (some 169))), (.inr (.inr (some 19)))] (G, I, P) = some (some (.inl 1), (G, I, P)) := by
  refine am_doL (L := [some (.inr (.inr (some 169))), some (.inr (.inr (some 19)))]) (Nat.le_of_ble_eq_true rfl) rfl ?_
  refine (ex_6_0 (ex_6_1 (ix_46 (S' := [(.inl 0)]) rfl (sh_169 hS) (k_ov_19 hS hK hB hT hs (v := 0) (by simp only [ooI, if_pos h])) rfl rfl (ex_if1 (fun hc => by exfalso; revert hc; decide) (fun _ => ?_)))))
  refine (ex_0 (ex_28 ?_))
  exact ex_57 (by decide) rfl
theorem k_is_19_f {d : Nat} {G : am_G} {I : Nat → Nat → Int} {P : Nat → Nat → Option Nat} (hS : ST G P) (hK : KS I) {b : Nat → Int} {n : Nat} (hB : TB b n) {s : Nat} (hT : TK I P b n s) (hs : s ≤ n) (h : ¬ tk b n s = [111, 114]) : am_call am_B am_M (d + 2) 103 [(.inr (.inr (some 169))), (.inr (.inr (some 19)))] (G, I, P) = some (some (.inl 0), (G, I, P)) := by
  refine am_doL (L := [some (.inr (.inr (some 169))), some (.inr (.inr (some 19)))]) (Nat.le_of_ble_eq_true rfl) rfl ?_
  refine (ex_6_0 (ex_6_1 (ix_46 (S' := [(.inl (-1))]) rfl (sh_169 hS) (k_ov_19 hS hK hB hT hs (v := (-1)) (by simp only [ooI, if_neg h])) rfl rfl (ex_if1 (fun _ => ?_) (fun hc => by exfalso; revert hc; decide)))))
  refine (ex_0 (ex_58 ?_))
  exact ex_57 (by decide) rfl
def nu1 (b : Nat → Int) (i : Nat) (v : Int) : Int := if v * 10 + b i - 48 ≤ 1001 then v * 10 + b i - 48 else 1001
/-- the number that a token is, 1001 if it is larger; -1: none -/
def num (b : Nat → Int) (n s : Nat) : Int := if so b n s = 2 then am_it (fun i v => nu1 b i v) (en b n s - s) s 0 else -1
theorem srt2 {v : Int} (h : srt v = 2) : 48 ≤ v ∧ v ≤ 57 := by
  unfold srt at h
  split at h
  · omega
  · split at h
    · assumption
    · omega
theorem srt1 {v : Int} (h : srt v = 1) : 97 ≤ v ∧ v ≤ 122 := by
  unfold srt at h
  split at h
  · assumption
  · split at h <;> omega
theorem k_number_n {d : Nat} {G : am_G} {I : Nat → Nat → Int} {P : Nat → Nat → Option Nat} (hS : ST G P) {b : Nat → Int} {n : Nat} (hB : TB b n) {s : Nat} (hT : TK I P b n s) (hs : s ≤ n) (h : ¬ so b n s = 2) : am_call am_B am_M (d + 1) 105 [(.inr (.inr (some 169)))] (G, I, P) = some (some (.inl (num b n s)), (G, I, P)) := by
  refine am_doL (L := [some (.inr (.inr (some 169))), none, none]) (Nat.le_of_ble_eq_true rfl) rfl ?_
  refine (ex_6_0 (ix_41i (v := ((so b n s : Nat) : Int)) (sh_169 hS) hT.2.2.2.2.1 (ex_0 ?_)))
  refine ex_ic0 (fun hc5 => by exfalso; omega) (fun hc5 => ?_)
  refine (ex_0 ?_)
  exact ex_53 (by unfold num; rw [if_neg h])
theorem num_b {b : Nat → Int} {n s : Nat} (hs : s ≤ n) : -1 ≤ num b n s ∧ num b n s ≤ 1001 := by
  unfold num
  split
  · rename_i h2
    have hlt : s < n := by unfold so at h2; split at h2; assumption; omega
    have h2' : srt (b s) = 2 := by unfold so at h2; rw [if_pos hlt] at h2; exact h2
    have he := en_b (b := b) hs
    have := am_it_inv (f := fun i v => nu1 b i v) (inv := fun i v => s ≤ i ∧ 0 ≤ v ∧ v ≤ 1001) (N := en b n s) (fun i v hi h => by
      have hd := srt2 ((en_in hlt h.1 hi).trans h2')
      refine ⟨by omega, ?_⟩
      show 0 ≤ nu1 b i v ∧ nu1 b i v ≤ 1001
      unfold nu1
      split <;> omega) (en b n s - s) s 0 (by omega) ⟨Nat.le_refl _, by decide, by decide⟩
    omega
  · omega
theorem k_number_d {d : Nat} {G : am_G} {I : Nat → Nat → Int} {P : Nat → Nat → Option Nat} (hS : ST G P) {b : Nat → Int} {n : Nat} (hB : TB b n) {s : Nat} (hT : TK I P b n s) (hs : s ≤ n) (h : so b n s = 2) : am_call am_B am_M (d + 1) 105 [(.inr (.inr (some 169)))] (G, I, P) = some (some (.inl (num b n s)), (G, I, P)) := by
  have hn4 := hB.1
  have hsl : s < n := by unfold so at h; split at h; assumption; omega
  have h2 : srt (b s) = 2 := by unfold so at h; rw [if_pos hsl] at h; exact h
  have he := en_b (b := b) hs
  refine am_doL (L := [some (.inr (.inr (some 169))), none, none]) (Nat.le_of_ble_eq_true rfl) rfl ?_
  refine (ex_6_0 (ix_41i (v := ((so b n s : Nat) : Int)) (sh_169 hS) hT.2.2.2.2.1 (ex_0 ?_)))
  refine ex_ic0 (fun hc5 => ?_) (fun hc5 => by exfalso; omega)
  refine (ex_0 (ex_7_1 rfl (ex_6_0 (ix_41i (v := (s : Int)) (sh_169 hS) hT.2.2.1 (ex_7_2 rfl (ex_58 ?_))))))
  refine ex_forH (b := 3) (σ := Int) ((en b n s)) (fun i v => nu1 b i v) (fun i v => s ≤ i ∧ 0 ≤ v ∧ v ≤ 1001) (fun i v e_i => [some (.inr (.inr (some 169))), some (.inl v), some (.inl (i : Int))]) (fun i v => (G, I, P)) ?_ ?_ ((en b n s - s)) (s) (0) (fun k_ => ([some (.inr (.inr (some 169))), some (.inl 0), some (.inl (s : Int))] : am_L).getD k_ none) (by omega) (⟨Nat.le_refl _, by decide, by decide⟩) rfl (rfl) ?_
  · intro i v hii hvi
    have hvi : s ≤ i ∧ 0 ≤ v ∧ v ≤ 1001 := hvi
    refine ⟨by omega, ?_⟩
    show 0 ≤ nu1 b i v ∧ nu1 b i v ≤ 1001
    have hd := srt2 ((en_in hsl hvi.1 hii).trans h2)
    unfold nu1
    split <;> omega
  · intro i v e_i hii hvi v' hsi hki
    have hvi : s ≤ i ∧ 0 ≤ v ∧ v ≤ 1001 := hvi
    have hd := srt2 ((en_in hsl hvi.1 hii).trans h2)
    refine (ex_4_2 (ex_6_0 (ix_41i (v := ((en b n s) : Int)) (sh_169 hS) hT.2.2.2.1 ?_)))
    refine ex_ic3 (fun hc22 => by exfalso; omega) (fun hc22 => ?_)
    refine (ex_4_1 (ex_0 (ex_mul ⟨by omega, by omega⟩ (ex_6_0 (ix_41r (sh_169 hS) hT.1 (ex_4_2 (ix_31 (j := i) (v := (b i)) (sh_171 hS) (by omega) (by omega) (by omega) ((hT.2.2.2.2.2 i (by omega)).trans (by unfold sb; rw [if_neg (by omega)])) (ex_add ⟨by omega, by omega⟩ (ex_0 (ex_sub ⟨by omega, by omega⟩ (ex_0 (ex_min (v := (nu1 b i v)) rfl rfl (ex_7_1 rfl (ex_10_2 ⟨by omega, by omega⟩ rfl (ex_28 ?_)))))))))))))))
    rw [hsi] at hki
    exact hki (fun k_ => ([some (.inr (.inr (some 169))), some (.inl (nu1 b i v)), some (.inl ((i : Int) + 1))] : am_L).getD k_ none)
  · intro v e_i hsi hvi
    refine (ex_4_2 (ex_6_0 (ix_41i (v := ((en b n s) : Int)) (sh_169 hS) hT.2.2.2.1 ?_)))
    refine ex_ic3 (fun hc22 => ?_) (fun hc22 => by exfalso; omega)
    refine (ex_4_1 ?_)
    exact ex_53 (by rw [hsi]; unfold num; rw [if_pos h])
theorem k_number {d : Nat} {G : am_G} {I : Nat → Nat → Int} {P : Nat → Nat → Option Nat} (hS : ST G P) {b : Nat → Int} {n : Nat} (hB : TB b n) {s : Nat} (hT : TK I P b n s) (hs : s ≤ n) : am_call am_B am_M (d + 1) 105 [.inr (.inr (some 169))] (G, I, P) = some (some (.inl (num b n s)), (G, I, P)) := by
  by_cases h : so b n s = 2
  · exact k_number_d hS hB hT hs h
  · exact k_number_n hS hB hT hs h
