/-! ===== the reference reads a clause of orders ===== -/
def MO (I : Nat → Nat → Int) (i c : Nat) (oc : Oc) : Prop := I 238 (8 * i) = (oc.1 : Int) ∧ oc.1 < 4 ∧ (oc.2.1 = none ↔ oc.1 = 3) ∧ (oc.2.2.1 = none ↔ ¬ oc.1 = 0) ∧ SE true I 238 i 1 c oc.2.1 ∧ SE true I 238 i 3 c oc.2.2.1 ∧ I 238 (8 * i + 7) = (oc.2.2.2.1 : Int) ∧ (1 ≤ oc.2.2.2.1 ∧ oc.2.2.2.1 ≤ 20) ∧ SE true I 238 i 5 c oc.2.2.2.2 ∧ (∀ g, oc.2.2.2.2 = some g → Vt g)
theorem MO_mono {I J : Nat → Nat → Int} {i c c' : Nat} {oc : Oc} (h : MO I i c oc) (h1 : ∀ k, 8 * i ≤ k → k < 8 * i + 8 → J 238 k = I 238 k) (hr : ∀ k, k < c → J 219 k = I 219 k ∧ J 220 k = I 220 k) (hc : c ≤ c') : MO J i c' oc := by
  obtain ⟨g1, g2, g3, g4, g5, g6, g7, g8, g9, g10⟩ := h
  exact ⟨(h1 _ (by omega) (by omega)).trans g1, g2, g3, g4, SE_mono g5 (h1 _ (by omega) (by omega)) (h1 _ (by omega) (by omega)) hr hc, SE_mono g6 (h1 _ (by omega) (by omega)) (h1 _ (by omega) (by omega)) hr hc, (h1 _ (by omega) (by omega)).trans g7, g8, SE_mono g9 (h1 _ (by omega) (by omega)) (h1 _ (by omega) (by omega)) hr hc, g10⟩
/-- a sum of a clause is read -/
def QU (G : am_G) (P : Nat → Nat → Option Nat) (b : Nat → Int) (n : Nat) (I : Nat → Nat → Int) (c a : Nat) (r : Rs) (o : am_O) : Prop := match r with
  | .inl x => ∃ I1, o = (none, (G, I1, P)) ∧ I1 208 19 = 1 ∧ I1 208 18 = (x : Int) ∧ MLF I I1
  | .inr (s', l', f) => ∃ I1 c1, o = (none, (G, I1, P)) ∧ MX I1 b n true s' l' c1 ∧ MS true (I1 219) (I1 220) c c1 20 f ∧ I1 238 a = (c : Int) ∧ I1 238 (a + 1) = (c1 : Int) ∧ (∀ q k, ¬ (q = 208 ∧ ((14 ≤ k ∧ k ≤ 19) ∨ k = 23 ∨ k = 26 ∨ k = 29 ∨ k = 30)) → ¬ ((q = 219 ∨ q = 220) ∧ c ≤ k) → ¬ (q = 221 ∨ q = 222) → ¬ (q = 238 ∧ (k = a ∨ k = a + 1)) → I1 q k = I q k)
theorem cs_x {d : Nat} {G : am_G} {I : Nat → Nat → Int} {P : Nat → Nat → Option Nat} (hS : ST G P) {b : Nat → Int} {n : Nat} (hB : TB b n) {s l c : Nat} (hX : MX I b n true s l c) {a : Nat} (ha : a + 1 < 96) {x : Nat} (hpv : px_sum b n true 8 s l = .inl x) : ∃ o, am_call am_B am_M (d + 8) 274 [(.inr (.inr (some 208))), (.inl (a : Int))] (G, I, P) = some o ∧ QU G P b n I c a (px_sum b n true 8 s l) o := by
  refine am_doQ (L := [some (.inr (.inr (some 208))), some (.inl (a : Int))]) (Nat.le_of_ble_eq_true rfl) rfl ?_
  refine (ex_6_0 (ix_41r (sh_208 hS) (pt_208_50 hS) (ex_4_1 (ex_6_0 (ix_41i (v := (c : Int)) (sh_208 hS) (MX_23 hX) (ix_34 (j := a) (sh_238 hS) (by omega) (by omega) (by omega) (ex_6_0 (ix_41i (v := 0) (sh_208 hS) ((u2_q (by decide)).trans (MX_b hX)) (ex_if1 (fun hc => by exfalso; revert hc; decide) (fun _ => ?_))))))))))
  refine (ex_6_0 (ex_0 ?_))
  have hX1 : MX (am_u2 I 238 a (c : Int)) b n true s l c := MX_fr hX (fun q k hq => u2_o (by omega))
  obtain ⟨o_, eo, qo⟩ := c_exprS (d := d) hS hB hX1
  rw [hpv] at qo
  obtain ⟨J4, rfl, b4, x4, f4, y4, hy4, -⟩ := qo
  refine (ix_46 (S' := []) rfl (sh_208 hS) eo rfl rfl (ex_58 (ex_6_0 (ix_41r (sh_208 hS) (pt_208_50 hS) (ex_4_1 (ex_0 (ex_11e (v := ((a + 1 : Nat) : Int)) ((am_add ⟨by omega, by omega⟩).trans (by omega)) (ex_6_0 (ix_41i (v := (J4 208 23)) (sh_208 hS) rfl (ix_34 (j := (a + 1)) (sh_238 hS) (by omega) (by omega) (by omega) ?_))))))))))
  exact ex_56 (by rw [hpv]; exact ⟨_, rfl, (u2_q (by decide)).trans b4, (u2_q (by decide)).trans x4, MLF_w (MLF_trans (MLF_w MLF_refl (Or.inr rfl)) (MLF_MFr f4)) (Or.inr rfl)⟩)
theorem cs_s {d : Nat} {G : am_G} {I : Nat → Nat → Int} {P : Nat → Nat → Option Nat} (hS : ST G P) {b : Nat → Int} {n : Nat} (hB : TB b n) {s l c : Nat} (hX : MX I b n true s l c) {a : Nat} (ha : a + 1 < 96) {s4 l4 : Nat} {g : Fn} (hpv : px_sum b n true 8 s l = .inr (s4, l4, g)) : ∃ o, am_call am_B am_M (d + 8) 274 [(.inr (.inr (some 208))), (.inl (a : Int))] (G, I, P) = some o ∧ QU G P b n I c a (px_sum b n true 8 s l) o := by
  refine am_doQ (L := [some (.inr (.inr (some 208))), some (.inl (a : Int))]) (Nat.le_of_ble_eq_true rfl) rfl ?_
  refine (ex_6_0 (ix_41r (sh_208 hS) (pt_208_50 hS) (ex_4_1 (ex_6_0 (ix_41i (v := (c : Int)) (sh_208 hS) (MX_23 hX) (ix_34 (j := a) (sh_238 hS) (by omega) (by omega) (by omega) (ex_6_0 (ix_41i (v := 0) (sh_208 hS) ((u2_q (by decide)).trans (MX_b hX)) (ex_if1 (fun hc => by exfalso; revert hc; decide) (fun _ => ?_))))))))))
  refine (ex_6_0 (ex_0 ?_))
  have hX1 : MX (am_u2 I 238 a (c : Int)) b n true s l c := MX_fr hX (fun q k hq => u2_o (by omega))
  obtain ⟨o_, eo, qo⟩ := c_exprS (d := d) hS hB hX1
  rw [hpv] at qo
  obtain ⟨J4, c4, rfl, hX4, hM4, f4⟩ := qo
  refine (ix_46 (S' := []) rfl (sh_208 hS) eo rfl rfl (ex_58 (ex_6_0 (ix_41r (sh_208 hS) (pt_208_50 hS) (ex_4_1 (ex_0 (ex_11e (v := ((a + 1 : Nat) : Int)) ((am_add ⟨by omega, by omega⟩).trans (by omega)) (ex_6_0 (ix_41i (v := (c4 : Int)) (sh_208 hS) (MX_23 hX4) (ix_34 (j := (a + 1)) (sh_238 hS) (by omega) (by omega) (by omega) ?_))))))))))
  exact ex_56 (by rw [hpv]; exact ⟨_, c4, rfl, MX_fr hX4 (fun q k hq => u2_o (by omega)), MS_congr hM4 (fun k _ _ => ⟨u2_q (by decide), u2_q (by decide)⟩), (u2_k (by omega)).trans ((f4 _ _ (by omega) (by omega) (by omega)).trans u2_e), u2_e, fun q k a1 a2 a3 a4 => (u2_o (by omega)).trans ((f4 q k (by omega) (by omega) (by omega)).trans (u2_o (by omega)))⟩)
theorem cs {d : Nat} {G : am_G} {I : Nat → Nat → Int} {P : Nat → Nat → Option Nat} (hS : ST G P) {b : Nat → Int} {n : Nat} (hB : TB b n) {s l c : Nat} (hX : MX I b n true s l c) {a : Nat} (ha : a + 1 < 96) : ∃ o, am_call am_B am_M (d + 8) 274 [.inr (.inr (some 208)), .inl (a : Int)] (G, I, P) = some o ∧ QU G P b n I c a (px_sum b n true 8 s l) o := by
  cases hpv : px_sum b n true 8 s l with
  | inl x => have := cs_x (d := d) hS hB hX ha hpv; rw [hpv] at this; exact this
  | inr q => obtain ⟨s4, l4, g⟩ := q; have := cs_s (d := d) hS hB hX ha hpv; rw [hpv] at this; exact this
theorem cs_b {d : Nat} {G : am_G} {I : Nat → Nat → Int} {P : Nat → Nat → Option Nat} (hS : ST G P) {a : Nat} (ha : a + 1 < 96) (h19 : I 208 19 = 1) : am_call am_B am_M (d + 8) 274 [(.inr (.inr (some 208))), (.inl (a : Int))] (G, I, P) = some (none, (G, am_u2 (am_u2 I 238 a (I 208 23)) 238 (a + 1) (I 208 23), P)) := by
  refine am_doL (L := [some (.inr (.inr (some 208))), some (.inl (a : Int))]) (Nat.le_of_ble_eq_true rfl) rfl ?_
  refine (ex_6_0 (ix_41r (sh_208 hS) (pt_208_50 hS) (ex_4_1 (ex_6_0 (ix_41i (v := (I 208 23)) (sh_208 hS) rfl (ix_34 (j := a) (sh_238 hS) (by omega) (by omega) (by omega) (ex_6_0 (ix_41i (v := 1) (sh_208 hS) ((u2_q (by decide)).trans h19) (ex_if1 (fun _ => ?_) (fun hc => by exfalso; revert hc; decide))))))))))
  refine (ex_6_0 (ix_41r (sh_208 hS) (pt_208_50 hS) (ex_4_1 (ex_0 (ex_11e (v := ((a + 1 : Nat) : Int)) ((am_add ⟨by omega, by omega⟩).trans (by omega)) (ex_6_0 (ix_41i (v := (I 208 23)) (sh_208 hS) (u2_q (by decide)) (ix_34 (j := (a + 1)) (sh_238 hS) (by omega) (by omega) (by omega) ?_))))))))
  exact ex_56 rfl
theorem cx27_b {d : Nat} {G : am_G} {I J : Nat → Nat → Int} {P : Nat → Nat → Option Nat} (hS : ST G P) {b : Nat → Int} {n : Nat} (hB : TB b n) {s l c i : Nat} {c0 v x : Nat} {r : Nat ⊕ (Nat × Nat × Oc)} (hi : i < 12) (h19 : J 208 19 = 1) (h18 : J 208 18 = (x : Int)) (hF : MLF I J) (hr : r = .inl x) : am_ex (am_call am_B am_M (d + 8)) (am_B 275) (am_B 275 27) [some (.inr (.inr (some 208))), some (.inl (v : Int)), some (.inl ((8 * i : Nat) : Int)), some (.inl 8)] [] (G, J, P) (QK G P b n true 238 MO I c0 i r) := by
  refine (ex_6_0 (ix_41r (sh_208 hS) (pt_208_50 hS) (ex_4_2 (ex_0 (ex_11e (v := ((8 * i + 6 : Nat) : Int)) ((am_add ⟨by omega, by omega⟩).trans (by omega)) (ex_6_0 (ix_41i (v := (J 208 23)) (sh_208 hS) rfl (ix_34 (j := (8 * i + 6)) (sh_238 hS) (by omega) (by omega) (by omega) ?_))))))))
  exact ex_56 (QK_inl hr ((u2_q (by decide)).trans h19) ((u2_q (by decide)).trans h18) (MLF_w hF (Or.inr rfl)))
theorem cx24_b {d : Nat} {G : am_G} {I J : Nat → Nat → Int} {P : Nat → Nat → Option Nat} (hS : ST G P) {b : Nat → Int} {n : Nat} (hB : TB b n) {s l c i : Nat} {c0 v x : Nat} {r : Nat ⊕ (Nat × Nat × Oc)} (hi : i < 12) (h19 : J 208 19 = 1) (h18 : J 208 18 = (x : Int)) (hF : MLF I J) (hr : r = .inl x) : am_ex (am_call am_B am_M (d + 8)) (am_B 275) (am_B 275 24) [some (.inr (.inr (some 208))), some (.inl (v : Int)), some (.inl ((8 * i : Nat) : Int)), some (.inl 8)] [] (G, J, P) (QK G P b n true 238 MO I c0 i r) := by
  refine (ex_6_0 (ix_41r (sh_208 hS) (pt_208_50 hS) (ex_4_2 (ex_0 (ex_11e (v := ((8 * i + 5 : Nat) : Int)) ((am_add ⟨by omega, by omega⟩).trans (by omega)) (ex_6_0 (ix_41i (v := (J 208 23)) (sh_208 hS) rfl (ix_34 (j := (8 * i + 5)) (sh_238 hS) (by omega) (by omega) (by omega) (ex_6_0 (ix_41i (v := 1) (sh_208 hS) ((u2_q (by decide)).trans h19) (ex_if1 (fun _ => ?_) (fun hc => by exfalso; revert hc; decide))))))))))))
  exact cx27_b (s := s) (l := l) (c := c) hS hB hi ((u2_q (by decide)).trans (h19)) ((u2_q (by decide)).trans (h18)) (MLF_w hF (Or.inr rfl)) hr
theorem cx21_b {d : Nat} {G : am_G} {I J : Nat → Nat → Int} {P : Nat → Nat → Option Nat} (hS : ST G P) {b : Nat → Int} {n : Nat} (hB : TB b n) {s l c i : Nat} {c0 v x : Nat} {r : Nat ⊕ (Nat × Nat × Oc)} (hi : i < 12) (h19 : J 208 19 = 1) (h18 : J 208 18 = (x : Int)) (hF : MLF I J) (hr : r = .inl x) : am_ex (am_call am_B am_M (d + 8)) (am_B 275) (am_B 275 21) [some (.inr (.inr (some 208))), some (.inl (v : Int)), some (.inl ((8 * i : Nat) : Int)), some (.inl 8)] [] (G, J, P) (QK G P b n true 238 MO I c0 i r) := by
  refine (ex_6_0 (ix_41r (sh_208 hS) (pt_208_50 hS) (ex_4_2 (ex_0 (ex_11e (v := ((8 * i + 7 : Nat) : Int)) ((am_add ⟨by omega, by omega⟩).trans (by omega)) (ex_0 (ix_34 (j := (8 * i + 7)) (sh_238 hS) (by omega) (by omega) (by omega) (ex_6_0 (ix_41i (v := 1) (sh_208 hS) ((u2_q (by decide)).trans h19) (ex_if1 (fun _ => ?_) (fun hc => by exfalso; revert hc; decide)))))))))))
  exact cx24_b (s := s) (l := l) (c := c) hS hB hi ((u2_q (by decide)).trans (h19)) ((u2_q (by decide)).trans (h18)) (MLF_w hF (Or.inr rfl)) hr
theorem cx20_b {d : Nat} {G : am_G} {I J : Nat → Nat → Int} {P : Nat → Nat → Option Nat} (hS : ST G P) {b : Nat → Int} {n : Nat} (hB : TB b n) {s l c i : Nat} {c0 v x : Nat} {r : Nat ⊕ (Nat × Nat × Oc)} (hi : i < 12) (h19 : J 208 19 = 1) (h18 : J 208 18 = (x : Int)) (hF : MLF I J) (hr : r = .inl x) : am_ex (am_call am_B am_M (d + 8)) (am_B 275) (am_B 275 20) [some (.inr (.inr (some 208))), some (.inl (v : Int)), some (.inl ((8 * i : Nat) : Int)), some (.inl 8)] [] (G, J, P) (QK G P b n true 238 MO I c0 i r) := by
  refine (ex_6_0 (ex_4_2 (ex_0 (ex_11e (v := ((8 * i + 3 : Nat) : Int)) ((am_add ⟨by omega, by omega⟩).trans (by omega)) (ix_46 (S' := []) rfl (sh_208 hS) (cs_b (a := (8 * i + 3)) hS (by omega) h19) rfl rfl (ex_58 ?_))))))
  exact cx21_b (s := s) (l := l) (c := c) hS hB hi ((u2_q (by decide)).trans ((u2_q (by decide)).trans (h19))) ((u2_q (by decide)).trans ((u2_q (by decide)).trans (h18))) (MLF_w (MLF_w hF (Or.inr rfl)) (Or.inr rfl)) hr
theorem cx17_b {d : Nat} {G : am_G} {I J : Nat → Nat → Int} {P : Nat → Nat → Option Nat} (hS : ST G P) {b : Nat → Int} {n : Nat} (hB : TB b n) {s l c i : Nat} {c0 v x : Nat} {r : Nat ⊕ (Nat × Nat × Oc)} (hi : i < 12) (h19 : J 208 19 = 1) (h18 : J 208 18 = (x : Int)) (hF : MLF I J) (hr : r = .inl x) : am_ex (am_call am_B am_M (d + 8)) (am_B 275) (am_B 275 17) [some (.inr (.inr (some 208))), some (.inl (v : Int)), some (.inl ((8 * i : Nat) : Int)), some (.inl 8)] [] (G, J, P) (QK G P b n true 238 MO I c0 i r) := by
  refine (ex_4_1 ?_)
  refine ex_if1 (fun hc126 => ?_) (fun hc126 => ?_)
  · exact cx21_b (s := s) (l := l) (c := c) hS hB hi h19 h18 hF hr
  · refine (ex_6_0 (ix_41i (v := 1) (sh_208 hS) h19 (ex_if1 (fun _ => ?_) (fun hc => by exfalso; revert hc; decide))))
    exact cx20_b (s := s) (l := l) (c := c) hS hB hi h19 h18 hF hr
/-- a clause of orders while it is read -/
def CO (I J : Nat → Nat → Int) (b : Nat → Int) (n i c0 s l c v : Nat) (o1 o2 : Option Fn) : Prop := MX J b n true s l c ∧ c0 ≤ c ∧ J 208 21 = ((i + 1 : Nat) : Int) ∧ J 238 (8 * i) = (v : Int) ∧ SE true J 238 i 1 c o1 ∧ SE true J 238 i 3 c o2 ∧ MCF 238 c0 i I J
theorem cx27 {d : Nat} {G : am_G} {I J : Nat → Nat → Int} {P : Nat → Nat → Option Nat} (hS : ST G P) {b : Nat → Int} {n : Nat} (hB : TB b n) {s l c i : Nat} {c0 v : Nat} {o1 o2 : Option Fn} {r : Nat ⊕ (Nat × Nat × Oc)} (hi : i < 12) (hv4 : v < 4) (hn1 : o1 = none ↔ v = 3) (hn2 : o2 = none ↔ ¬ v = 0) (hC : CO I J b n i c0 s l c v o1 o2) {t : Nat} (ht : 1 ≤ t ∧ t ≤ 20) (h7 : J 238 (8 * i + 7) = (t : Int)) {a2 : Nat} {o3 : Option Fn} (h5 : J 238 (8 * i + 5) = (a2 : Int)) (ha2 : o3 = none → a2 = c) (hs3 : ∀ g, o3 = some g → MS true (J 219) (J 220) a2 c 20 g ∧ Vt g) (hr : r = .inr (s, l, (v, o1, o2, t, o3))) : am_ex (am_call am_B am_M (d + 8)) (am_B 275) (am_B 275 27) [some (.inr (.inr (some 208))), some (.inl (v : Int)), some (.inl ((8 * i : Nat) : Int)), some (.inl 8)] [] (G, J, P) (QK G P b n true 238 MO I c0 i r) := by
  obtain ⟨hX, hc0, h21, hv, h1, h2, hF⟩ := hC
  have hn4 := hB.1
  have hs := MX_s hX
  refine (ex_6_0 (ix_41r (sh_208 hS) (pt_208_50 hS) (ex_4_2 (ex_0 (ex_11e (v := ((8 * i + 6 : Nat) : Int)) ((am_add ⟨by omega, by omega⟩).trans (by omega)) (ex_6_0 (ix_41i (v := (c : Int)) (sh_208 hS) (MX_23 hX) (ix_34 (j := (8 * i + 6)) (sh_238 hS) (by omega) (by omega) (by omega) ?_))))))))
  exact ex_56 (QK_inr hr (MX_fr hX (fun q k hq => u2_o (by omega))) hc0 ((u2_q (by decide)).trans h21) ⟨(u2_k (by omega)).trans hv, hv4, hn1, hn2, SE_mono h1 (u2_k (by omega)) (u2_k (by omega)) (fun k _ => ⟨u2_q (by decide), u2_q (by decide)⟩) (Nat.le_refl _), SE_mono h2 (u2_k (by omega)) (u2_k (by omega)) (fun k _ => ⟨u2_q (by decide), u2_q (by decide)⟩) (Nat.le_refl _), (u2_k (by omega)).trans h7, ht, ⟨a2, c, (u2_k (by omega)).trans h5, u2_e, Nat.le_refl _, ha2, fun f hf => ⟨MS_congr (hs3 f hf).1 (fun k _ _ => ⟨u2_q (by decide), u2_q (by decide)⟩), Vt_Vs (hs3 f hf).2⟩⟩, fun g hg => (hs3 g hg).2⟩ (MCF_w hF (by decide)))
theorem cx24_n {d : Nat} {G : am_G} {I J : Nat → Nat → Int} {P : Nat → Nat → Option Nat} (hS : ST G P) {b : Nat → Int} {n : Nat} (hB : TB b n) {s l c i : Nat} {c0 v : Nat} {o1 o2 : Option Fn} {r : Nat ⊕ (Nat × Nat × Oc)} (hi : i < 12) (hv4 : v < 4) (hn1 : o1 = none ↔ v = 3) (hn2 : o2 = none ↔ ¬ v = 0) (hC : CO I J b n i c0 s l c v o1 o2) {t : Nat} (ht : 1 ≤ t ∧ t ≤ 20) (h7 : J 238 (8 * i + 7) = (t : Int)) (hr : r = st4K b n true v o1 o2 t s l) (hif : ¬ tk b n s = [105, 102]) : am_ex (am_call am_B am_M (d + 8)) (am_B 275) (am_B 275 24) [some (.inr (.inr (some 208))), some (.inl (v : Int)), some (.inl ((8 * i : Nat) : Int)), some (.inl 8)] [] (G, J, P) (QK G P b n true 238 MO I c0 i r) := by
  obtain ⟨hX, hc0, h21, hv, h1, h2, hF⟩ := hC
  have hn4 := hB.1
  have hs := MX_s hX
  have hX2 : MX (am_u2 J 238 (8 * i + 5) (c : Int)) b n true s l c := MX_fr hX (fun q k hq => u2_o (by omega))
  have hC2 : CO I (am_u2 J 238 (8 * i + 5) (c : Int)) b n i c0 s l c v o1 o2 := ⟨hX2, hc0, (u2_q (by decide)).trans h21, (u2_k (by omega)).trans hv, (SE_mono h1 (u2_k (by omega)) (u2_k (by omega)) (fun k _ => ⟨u2_q (by decide), u2_q (by decide)⟩) (Nat.le_refl _)), (SE_mono h2 (u2_k (by omega)) (u2_k (by omega)) (fun k _ => ⟨u2_q (by decide), u2_q (by decide)⟩) (Nat.le_refl _)), MCF_w hF (by decide)⟩
  have h72 : (am_u2 J 238 (8 * i + 5) (c : Int)) 238 (8 * i + 7) = (t : Int) := (u2_k (by omega)).trans h7
  refine (ex_6_0 (ix_41r (sh_208 hS) (pt_208_50 hS) (ex_4_2 (ex_0 (ex_11e (v := ((8 * i + 5 : Nat) : Int)) ((am_add ⟨by omega, by omega⟩).trans (by omega)) (ex_6_0 (ix_41i (v := (c : Int)) (sh_208 hS) (MX_23 hX) (ix_34 (j := (8 * i + 5)) (sh_238 hS) (by omega) (by omega) (by omega) (ex_6_0 (ix_41i (v := 0) (sh_208 hS) ((u2_q (by decide)).trans (MX_b hX)) (ex_if1 (fun hc => by exfalso; revert hc; decide) (fun _ => ?_))))))))))))
  refine (ex_6_0 (ex_1 (ix_46 (S' := [(.inl 0)]) rfl (sh_208 hS) (c_isW_f hS hB (MX_M hX2) (MX_s hX2) (v := 294) [105, 102] (lets_of rfl) (by decide) (by decide) hif) rfl rfl (ex_if0 (fun _ => ?_) (fun hc => by exfalso; revert hc; decide)))))
  exact cx27 hS hB hi hv4 hn1 hn2 hC2 ht h72 (a2 := c) (o3 := none) u2_e (fun _ => rfl) (fun g hg => (by cases hg)) (by rw [hr]; unfold st4K st4; rw [if_neg hif]; rfl)
theorem cx24_x {d : Nat} {G : am_G} {I J : Nat → Nat → Int} {P : Nat → Nat → Option Nat} (hS : ST G P) {b : Nat → Int} {n : Nat} (hB : TB b n) {s l c i : Nat} {c0 v : Nat} {o1 o2 : Option Fn} {r : Nat ⊕ (Nat × Nat × Oc)} (hi : i < 12) (hv4 : v < 4) (hn1 : o1 = none ↔ v = 3) (hn2 : o2 = none ↔ ¬ v = 0) (hC : CO I J b n i c0 s l c v o1 o2) {t : Nat} (ht : 1 ≤ t ∧ t ≤ 20) (h7 : J 238 (8 * i + 7) = (t : Int)) (hr : r = st4K b n true v o1 o2 t s l) (hif : tk b n s = [105, 102]) {x : Nat} (hpv : px_test b n true 8 (nx b n s) l = .inl x) : am_ex (am_call am_B am_M (d + 8)) (am_B 275) (am_B 275 24) [some (.inr (.inr (some 208))), some (.inl (v : Int)), some (.inl ((8 * i : Nat) : Int)), some (.inl 8)] [] (G, J, P) (QK G P b n true 238 MO I c0 i r) := by
  obtain ⟨hX, hc0, h21, hv, h1, h2, hF⟩ := hC
  have hn4 := hB.1
  have hs := MX_s hX
  have hX2 : MX (am_u2 J 238 (8 * i + 5) (c : Int)) b n true s l c := MX_fr hX (fun q k hq => u2_o (by omega))
  have hC2 : CO I (am_u2 J 238 (8 * i + 5) (c : Int)) b n i c0 s l c v o1 o2 := ⟨hX2, hc0, (u2_q (by decide)).trans h21, (u2_k (by omega)).trans hv, (SE_mono h1 (u2_k (by omega)) (u2_k (by omega)) (fun k _ => ⟨u2_q (by decide), u2_q (by decide)⟩) (Nat.le_refl _)), (SE_mono h2 (u2_k (by omega)) (u2_k (by omega)) (fun k _ => ⟨u2_q (by decide), u2_q (by decide)⟩) (Nat.le_refl _)), MCF_w hF (by decide)⟩
  have h72 : (am_u2 J 238 (8 * i + 5) (c : Int)) 238 (8 * i + 7) = (t : Int) := (u2_k (by omega)).trans h7
  have hlt := tk_lt hs hif
  have hnx := nx_2 (b := b) s hlt
  refine (ex_6_0 (ix_41r (sh_208 hS) (pt_208_50 hS) (ex_4_2 (ex_0 (ex_11e (v := ((8 * i + 5 : Nat) : Int)) ((am_add ⟨by omega, by omega⟩).trans (by omega)) (ex_6_0 (ix_41i (v := (c : Int)) (sh_208 hS) (MX_23 hX) (ix_34 (j := (8 * i + 5)) (sh_238 hS) (by omega) (by omega) (by omega) (ex_6_0 (ix_41i (v := 0) (sh_208 hS) ((u2_q (by decide)).trans (MX_b hX)) (ex_if1 (fun hc => by exfalso; revert hc; decide) (fun _ => ?_))))))))))))
  refine (ex_6_0 (ex_1 (ix_46 (S' := [(.inl 1)]) rfl (sh_208 hS) (c_isW_t hS hB (MX_M hX2) (MX_s hX2) (v := 294) [105, 102] (lets_of rfl) (by decide) (by decide) hif) rfl rfl (ex_if0 (fun hc => by exfalso; revert hc; decide) (fun _ => ?_)))))
  refine (ex_6_0 ?_)
  obtain ⟨J3, e3, m3, f3⟩ := c_next (d := d + 6) hS hB (MX_M hX2) (MX_s hX2)
  have hX3 := MX_next hX2 hlt m3 f3
  refine (ix_46 (S' := []) rfl (sh_208 hS) e3 rfl rfl (ex_6_0 (ex_0 ?_)))
  obtain ⟨o_, eo, qo⟩ := c_exprT (d := d + 1) hS hB hX3
  rw [hpv] at qo
  obtain ⟨J4, rfl, b4, x4, f4, y4, hy4, -⟩ := qo
  refine (ix_46 (S' := []) rfl (sh_208 hS) eo rfl rfl (ex_58 ?_))
  exact cx27_b (s := s) (l := l) (c := c) hS hB hi b4 x4 (MLF_trans (MLF_MCF hC2.2.2.2.2.2.2 (Or.inr rfl)) (MLF_trans (MLF_MFr (MFr_MKF (c := 0) f3)) (MLF_MFr f4))) (by rw [hr]; unfold st4K st4; rw [if_pos hif, hpv]; rfl)
theorem cx24_s {d : Nat} {G : am_G} {I J : Nat → Nat → Int} {P : Nat → Nat → Option Nat} (hS : ST G P) {b : Nat → Int} {n : Nat} (hB : TB b n) {s l c i : Nat} {c0 v : Nat} {o1 o2 : Option Fn} {r : Nat ⊕ (Nat × Nat × Oc)} (hi : i < 12) (hv4 : v < 4) (hn1 : o1 = none ↔ v = 3) (hn2 : o2 = none ↔ ¬ v = 0) (hC : CO I J b n i c0 s l c v o1 o2) {t : Nat} (ht : 1 ≤ t ∧ t ≤ 20) (h7 : J 238 (8 * i + 7) = (t : Int)) (hr : r = st4K b n true v o1 o2 t s l) (hif : tk b n s = [105, 102]) {s4 l4 : Nat} {g : Fn} (hpv : px_test b n true 8 (nx b n s) l = .inr (s4, l4, g)) (hVg : Vt g) : am_ex (am_call am_B am_M (d + 8)) (am_B 275) (am_B 275 24) [some (.inr (.inr (some 208))), some (.inl (v : Int)), some (.inl ((8 * i : Nat) : Int)), some (.inl 8)] [] (G, J, P) (QK G P b n true 238 MO I c0 i r) := by
  obtain ⟨hX, hc0, h21, hv, h1, h2, hF⟩ := hC
  have hn4 := hB.1
  have hs := MX_s hX
  have hX2 : MX (am_u2 J 238 (8 * i + 5) (c : Int)) b n true s l c := MX_fr hX (fun q k hq => u2_o (by omega))
  have hC2 : CO I (am_u2 J 238 (8 * i + 5) (c : Int)) b n i c0 s l c v o1 o2 := ⟨hX2, hc0, (u2_q (by decide)).trans h21, (u2_k (by omega)).trans hv, (SE_mono h1 (u2_k (by omega)) (u2_k (by omega)) (fun k _ => ⟨u2_q (by decide), u2_q (by decide)⟩) (Nat.le_refl _)), (SE_mono h2 (u2_k (by omega)) (u2_k (by omega)) (fun k _ => ⟨u2_q (by decide), u2_q (by decide)⟩) (Nat.le_refl _)), MCF_w hF (by decide)⟩
  have h72 : (am_u2 J 238 (8 * i + 5) (c : Int)) 238 (8 * i + 7) = (t : Int) := (u2_k (by omega)).trans h7
  have hlt := tk_lt hs hif
  have hnx := nx_2 (b := b) s hlt
  refine (ex_6_0 (ix_41r (sh_208 hS) (pt_208_50 hS) (ex_4_2 (ex_0 (ex_11e (v := ((8 * i + 5 : Nat) : Int)) ((am_add ⟨by omega, by omega⟩).trans (by omega)) (ex_6_0 (ix_41i (v := (c : Int)) (sh_208 hS) (MX_23 hX) (ix_34 (j := (8 * i + 5)) (sh_238 hS) (by omega) (by omega) (by omega) (ex_6_0 (ix_41i (v := 0) (sh_208 hS) ((u2_q (by decide)).trans (MX_b hX)) (ex_if1 (fun hc => by exfalso; revert hc; decide) (fun _ => ?_))))))))))))
  refine (ex_6_0 (ex_1 (ix_46 (S' := [(.inl 1)]) rfl (sh_208 hS) (c_isW_t hS hB (MX_M hX2) (MX_s hX2) (v := 294) [105, 102] (lets_of rfl) (by decide) (by decide) hif) rfl rfl (ex_if0 (fun hc => by exfalso; revert hc; decide) (fun _ => ?_)))))
  refine (ex_6_0 ?_)
  obtain ⟨J3, e3, m3, f3⟩ := c_next (d := d + 6) hS hB (MX_M hX2) (MX_s hX2)
  have hX3 := MX_next hX2 hlt m3 f3
  refine (ix_46 (S' := []) rfl (sh_208 hS) e3 rfl rfl (ex_6_0 (ex_0 ?_)))
  obtain ⟨o_, eo, qo⟩ := c_exprT (d := d + 1) hS hB hX3
  rw [hpv] at qo
  obtain ⟨J4, c4, rfl, hX4, hM4, f4⟩ := qo
  refine (ix_46 (S' := []) rfl (sh_208 hS) eo rfl rfl (ex_58 ?_))
  have hcc := hM4.1
  have f34 : ∀ q k, q = 238 ∨ ((q = 219 ∨ q = 220) ∧ k < c) ∨ (q = 208 ∧ k = 21) → J4 q k = (am_u2 J 238 (8 * i + 5) (c : Int)) q k := fun q k hq => (f4 q k (by omega) (by omega) (by omega)).trans (f3 q k (by omega))
  obtain ⟨_, _, g21, gv, g1, g2, gF⟩ := hC2
  have hrow : ∀ k, k < c → J4 219 k = (am_u2 J 238 (8 * i + 5) (c : Int)) 219 k ∧ J4 220 k = (am_u2 J 238 (8 * i + 5) (c : Int)) 220 k := fun k hk => ⟨f34 _ _ (by omega), f34 _ _ (by omega)⟩
  exact cx27 hS hB hi hv4 hn1 hn2 (o1 := o1) (o2 := o2) ⟨hX4, by omega, (f34 _ _ (by omega)).trans g21, (f34 _ _ (by omega)).trans gv, SE_mono g1 (f34 _ _ (by omega)) (f34 _ _ (by omega)) hrow (by omega), SE_mono g2 (f34 _ _ (by omega)) (f34 _ _ (by omega)) hrow (by omega), MCF_M (MCF_M gF (MFr_MKF (c := c) f3) hc0) f4 hc0⟩ ht ((f34 _ _ (by omega)).trans h72) (a2 := c) (o3 := some g) ((f34 _ _ (by omega)).trans u2_e) (fun hh => (by cases hh)) (fun g' hg => by cases hg; exact ⟨hM4, hVg⟩) (by rw [hr]; unfold st4K st4; rw [if_pos hif, hpv]; rfl)
theorem cx24 {d : Nat} {G : am_G} {I J : Nat → Nat → Int} {P : Nat → Nat → Option Nat} (hS : ST G P) {b : Nat → Int} {n : Nat} (hB : TB b n) {s l c i : Nat} {c0 v : Nat} {o1 o2 : Option Fn} {r : Nat ⊕ (Nat × Nat × Oc)} (hi : i < 12) (hv4 : v < 4) (hn1 : o1 = none ↔ v = 3) (hn2 : o2 = none ↔ ¬ v = 0) (hC : CO I J b n i c0 s l c v o1 o2) {t : Nat} (ht : 1 ≤ t ∧ t ≤ 20) (h7 : J 238 (8 * i + 7) = (t : Int)) (hr : r = st4K b n true v o1 o2 t s l) : am_ex (am_call am_B am_M (d + 8)) (am_B 275) (am_B 275 24) [some (.inr (.inr (some 208))), some (.inl (v : Int)), some (.inl ((8 * i : Nat) : Int)), some (.inl 8)] [] (G, J, P) (QK G P b n true 238 MO I c0 i r) := by
  by_cases hif : tk b n s = [105, 102]
  · have hnx := nx_2 (b := b) s (tk_lt (MX_s hC.1) hif)
    have hg := px_test_ok (b := b) (n := n) (od := true) 8 (nx b n s) l hnx.2 (MX_l hC.1)
    cases hpv : px_test b n true 8 (nx b n s) l with
    | inl x => exact cx24_x hS hB hi hv4 hn1 hn2 hC ht h7 hr hif hpv
    | inr q => obtain ⟨s4, l4, g⟩ := q; rw [hpv] at hg; exact cx24_s hS hB hi hv4 hn1 hn2 hC ht h7 hr hif hpv hg.2.2.2.2
  · exact cx24_n hS hB hi hv4 hn1 hn2 hC ht h7 hr hif
theorem cx21_n {d : Nat} {G : am_G} {I J : Nat → Nat → Int} {P : Nat → Nat → Option Nat} (hS : ST G P) {b : Nat → Int} {n : Nat} (hB : TB b n) {s l c i : Nat} {c0 v : Nat} {o1 o2 : Option Fn} {r : Nat ⊕ (Nat × Nat × Oc)} (hi : i < 12) (hv4 : v < 4) (hn1 : o1 = none ↔ v = 3) (hn2 : o2 = none ↔ ¬ v = 0) (hC : CO I J b n i c0 s l c v o1 o2) (hr : r = bnd (st3 b n s) (fun t => st4K b n true v o1 o2 t.2 t.1 l)) (hti : ¬ tk b n s = [116, 105, 109, 101, 115]) : am_ex (am_call am_B am_M (d + 8)) (am_B 275) (am_B 275 21) [some (.inr (.inr (some 208))), some (.inl (v : Int)), some (.inl ((8 * i : Nat) : Int)), some (.inl 8)] [] (G, J, P) (QK G P b n true 238 MO I c0 i r) := by
  obtain ⟨hX, hc0, h21, hv, h1, h2, hF⟩ := hC
  have hn4 := hB.1
  have hs := MX_s hX
  have hX2 : MX (am_u2 J 238 (8 * i + 7) 1) b n true s l c := MX_fr hX (fun q k hq => u2_o (by omega))
  have hC2 : CO I (am_u2 J 238 (8 * i + 7) 1) b n i c0 s l c v o1 o2 := ⟨hX2, hc0, (u2_q (by decide)).trans h21, (u2_k (by omega)).trans hv, (SE_mono h1 (u2_k (by omega)) (u2_k (by omega)) (fun k _ => ⟨u2_q (by decide), u2_q (by decide)⟩) (Nat.le_refl _)), (SE_mono h2 (u2_k (by omega)) (u2_k (by omega)) (fun k _ => ⟨u2_q (by decide), u2_q (by decide)⟩) (Nat.le_refl _)), MCF_w hF (by decide)⟩
  refine (ex_6_0 (ix_41r (sh_208 hS) (pt_208_50 hS) (ex_4_2 (ex_0 (ex_11e (v := ((8 * i + 7 : Nat) : Int)) ((am_add ⟨by omega, by omega⟩).trans (by omega)) (ex_0 (ix_34 (j := (8 * i + 7)) (sh_238 hS) (by omega) (by omega) (by omega) (ex_6_0 (ix_41i (v := 0) (sh_208 hS) ((u2_q (by decide)).trans (MX_b hX)) (ex_if1 (fun hc => by exfalso; revert hc; decide) (fun _ => ?_)))))))))))
  refine (ex_6_0 (ex_1 (ix_46 (S' := [(.inl 0)]) rfl (sh_208 hS) (c_isW_f hS hB (MX_M hX2) (MX_s hX2) (v := 21279923) [116, 105, 109, 101, 115] (lets_of rfl) (by decide) (by decide) hti) rfl rfl (ex_if0 (fun _ => ?_) (fun hc => by exfalso; revert hc; decide)))))
  exact cx24 hS hB hi hv4 hn1 hn2 hC2 (t := 1) (by decide) u2_e (by rw [hr]; unfold st3; rw [if_neg hti]; rfl)
theorem cx21_t {d : Nat} {G : am_G} {I J : Nat → Nat → Int} {P : Nat → Nat → Option Nat} (hS : ST G P) {b : Nat → Int} {n : Nat} (hB : TB b n) {s l c i : Nat} {c0 v : Nat} {o1 o2 : Option Fn} {r : Nat ⊕ (Nat × Nat × Oc)} (hi : i < 12) (hv4 : v < 4) (hn1 : o1 = none ↔ v = 3) (hn2 : o2 = none ↔ ¬ v = 0) (hC : CO I J b n i c0 s l c v o1 o2) (hr : r = bnd (st3 b n s) (fun t => st4K b n true v o1 o2 t.2 t.1 l)) (hti : tk b n s = [116, 105, 109, 101, 115]) (hm2 : ms b n (nx b n s) = 2) (hw2 : 1 ≤ wo b n (nx b n s) ∧ wo b n (nx b n s) ≤ 20) : am_ex (am_call am_B am_M (d + 8)) (am_B 275) (am_B 275 21) [some (.inr (.inr (some 208))), some (.inl (v : Int)), some (.inl ((8 * i : Nat) : Int)), some (.inl 8)] [] (G, J, P) (QK G P b n true 238 MO I c0 i r) := by
  obtain ⟨hX, hc0, h21, hv, h1, h2, hF⟩ := hC
  have hn4 := hB.1
  have hs := MX_s hX
  have hX2 : MX (am_u2 J 238 (8 * i + 7) 1) b n true s l c := MX_fr hX (fun q k hq => u2_o (by omega))
  have hC2 : CO I (am_u2 J 238 (8 * i + 7) 1) b n i c0 s l c v o1 o2 := ⟨hX2, hc0, (u2_q (by decide)).trans h21, (u2_k (by omega)).trans hv, (SE_mono h1 (u2_k (by omega)) (u2_k (by omega)) (fun k _ => ⟨u2_q (by decide), u2_q (by decide)⟩) (Nat.le_refl _)), (SE_mono h2 (u2_k (by omega)) (u2_k (by omega)) (fun k _ => ⟨u2_q (by decide), u2_q (by decide)⟩) (Nat.le_refl _)), MCF_w hF (by decide)⟩
  have hlt := tk_lt hs hti
  have hnx := nx_2 (b := b) s hlt
  have hnw2 := num_wo (b := b) hnx.2
  have hq2 := hnw2.2 hm2
  have hlt2 := num_lt (b := b) hnx.2 (hnw2.1.mp hm2)
  refine (ex_6_0 (ix_41r (sh_208 hS) (pt_208_50 hS) (ex_4_2 (ex_0 (ex_11e (v := ((8 * i + 7 : Nat) : Int)) ((am_add ⟨by omega, by omega⟩).trans (by omega)) (ex_0 (ix_34 (j := (8 * i + 7)) (sh_238 hS) (by omega) (by omega) (by omega) (ex_6_0 (ix_41i (v := 0) (sh_208 hS) ((u2_q (by decide)).trans (MX_b hX)) (ex_if1 (fun hc => by exfalso; revert hc; decide) (fun _ => ?_)))))))))))
  refine (ex_6_0 (ex_1 (ix_46 (S' := [(.inl 1)]) rfl (sh_208 hS) (c_isW_t hS hB (MX_M hX2) (MX_s hX2) (v := 21279923) [116, 105, 109, 101, 115] (lets_of rfl) (by decide) (by decide) hti) rfl rfl (ex_if0 (fun hc => by exfalso; revert hc; decide) (fun _ => ?_)))))
  refine (ex_6_0 ?_)
  obtain ⟨J3, e3, m3, f3⟩ := c_next (d := d + 6) hS hB (MX_M hX2) (MX_s hX2)
  have hX3 := MX_next hX2 hlt m3 f3
  refine (ix_46 (S' := []) rfl (sh_208 hS) e3 rfl rfl (ex_6_0 (ix_41r (sh_208 hS) (pt_208_50 hS) (ex_4_2 (ex_0 (ex_11e (v := ((8 * i + 7 : Nat) : Int)) ((am_add ⟨by omega, by omega⟩).trans (by omega)) (ex_6_0 (ex_1 (ex_1 ?_)))))))))
  obtain ⟨J4, e4, m4, f4⟩ := c_number_t (d := d + 4) (lo := 1) (hi := 20) hS hB (MX_M hX3) (MX_s hX3) (MX_b hX3) hm2 hw2
  have hX4 := MX_next hX3 hlt2 m4 f4
  refine (ix_46 (S' := [(.inl (wo b n (nx b n s))), (.inl ((8 * i + 7 : Nat) : Int)), (.inr (.inr (some 238)))]) rfl (sh_208 hS) e4 rfl rfl (ix_34 (j := (8 * i + 7)) (sh_238 hS) (by omega) (by omega) (by omega) (ex_58 ?_)))
  obtain ⟨_, _, g21, gv, g1, g2, gF⟩ := hC2
  have f34 : ∀ q k, ¬ (q = 208 ∧ 14 ≤ k ∧ k ≤ 17) → ¬ (q = 238 ∧ k = 8 * i + 7) → (am_u2 J4 238 (8 * i + 7) (wo b n (nx b n s))) q k = (am_u2 J 238 (8 * i + 7) 1) q k := fun q k h h2 => (u2_o h2).trans ((f4 q k h).trans (f3 q k h))
  exact cx24 hS hB hi hv4 hn1 hn2 (o1 := o1) (o2 := o2) (t := (num b n (nx b n s)).toNat) ⟨MX_fr hX4 (fun q k hq => u2_o (by omega)), hc0, (f34 _ _ (by omega) (by omega)).trans g21, (f34 _ _ (by omega) (by omega)).trans gv, SE_mono g1 (f34 _ _ (by omega) (by omega)) (f34 _ _ (by omega) (by omega)) (fun k _ => ⟨f34 _ _ (by omega) (by omega), f34 _ _ (by omega) (by omega)⟩) (Nat.le_refl _), SE_mono g2 (f34 _ _ (by omega) (by omega)) (f34 _ _ (by omega) (by omega)) (fun k _ => ⟨f34 _ _ (by omega) (by omega), f34 _ _ (by omega) (by omega)⟩) (Nat.le_refl _), MCF_w (MCF_M (MCF_M gF (MFr_MKF (c := c) f3) hc0) (MFr_MKF (c := c) f4) hc0) (by decide)⟩ (by omega) (u2_e.trans (by omega)) (by rw [hr]; unfold st3; rw [if_pos hti, if_pos ⟨by omega, by omega⟩]; rfl)
theorem cx21_f {d : Nat} {G : am_G} {I J : Nat → Nat → Int} {P : Nat → Nat → Option Nat} (hS : ST G P) {b : Nat → Int} {n : Nat} (hB : TB b n) {s l c i : Nat} {c0 v : Nat} {o1 o2 : Option Fn} {r : Nat ⊕ (Nat × Nat × Oc)} (hi : i < 12) (hv4 : v < 4) (hn1 : o1 = none ↔ v = 3) (hn2 : o2 = none ↔ ¬ v = 0) (hC : CO I J b n i c0 s l c v o1 o2) (hr : r = bnd (st3 b n s) (fun t => st4K b n true v o1 o2 t.2 t.1 l)) (hti : tk b n s = [116, 105, 109, 101, 115]) (hnu : ¬ (1 ≤ num b n (nx b n s) ∧ num b n (nx b n s) ≤ 20)) : am_ex (am_call am_B am_M (d + 8)) (am_B 275) (am_B 275 21) [some (.inr (.inr (some 208))), some (.inl (v : Int)), some (.inl ((8 * i : Nat) : Int)), some (.inl 8)] [] (G, J, P) (QK G P b n true 238 MO I c0 i r) := by
  obtain ⟨hX, hc0, h21, hv, h1, h2, hF⟩ := hC
  have hn4 := hB.1
  have hs := MX_s hX
  have hX2 : MX (am_u2 J 238 (8 * i + 7) 1) b n true s l c := MX_fr hX (fun q k hq => u2_o (by omega))
  have hC2 : CO I (am_u2 J 238 (8 * i + 7) 1) b n i c0 s l c v o1 o2 := ⟨hX2, hc0, (u2_q (by decide)).trans h21, (u2_k (by omega)).trans hv, (SE_mono h1 (u2_k (by omega)) (u2_k (by omega)) (fun k _ => ⟨u2_q (by decide), u2_q (by decide)⟩) (Nat.le_refl _)), (SE_mono h2 (u2_k (by omega)) (u2_k (by omega)) (fun k _ => ⟨u2_q (by decide), u2_q (by decide)⟩) (Nat.le_refl _)), MCF_w hF (by decide)⟩
  have hlt := tk_lt hs hti
  have hnx := nx_2 (b := b) s hlt
  have hnw2 := num_wo (b := b) hnx.2
  have hnf : ¬ (ms b n (nx b n s) = 2 ∧ 1 ≤ wo b n (nx b n s) ∧ wo b n (nx b n s) ≤ 20) := fun zz => by have hq2 := hnw2.2 zz.1; omega
  refine (ex_6_0 (ix_41r (sh_208 hS) (pt_208_50 hS) (ex_4_2 (ex_0 (ex_11e (v := ((8 * i + 7 : Nat) : Int)) ((am_add ⟨by omega, by omega⟩).trans (by omega)) (ex_0 (ix_34 (j := (8 * i + 7)) (sh_238 hS) (by omega) (by omega) (by omega) (ex_6_0 (ix_41i (v := 0) (sh_208 hS) ((u2_q (by decide)).trans (MX_b hX)) (ex_if1 (fun hc => by exfalso; revert hc; decide) (fun _ => ?_)))))))))))
  refine (ex_6_0 (ex_1 (ix_46 (S' := [(.inl 1)]) rfl (sh_208 hS) (c_isW_t hS hB (MX_M hX2) (MX_s hX2) (v := 21279923) [116, 105, 109, 101, 115] (lets_of rfl) (by decide) (by decide) hti) rfl rfl (ex_if0 (fun hc => by exfalso; revert hc; decide) (fun _ => ?_)))))
  refine (ex_6_0 ?_)
  obtain ⟨J3, e3, m3, f3⟩ := c_next (d := d + 6) hS hB (MX_M hX2) (MX_s hX2)
  have hX3 := MX_next hX2 hlt m3 f3
  refine (ix_46 (S' := []) rfl (sh_208 hS) e3 rfl rfl (ex_6_0 (ix_41r (sh_208 hS) (pt_208_50 hS) (ex_4_2 (ex_0 (ex_11e (v := ((8 * i + 7 : Nat) : Int)) ((am_add ⟨by omega, by omega⟩).trans (by omega)) (ex_6_0 (ex_1 (ex_1 (ix_46 (S' := [(.inl ((Int32.ofInt (wo b n (nx b n s))).toInt)), (.inl ((8 * i + 7 : Nat) : Int)), (.inr (.inr (some 238)))]) rfl (sh_208 hS) (c_number_f (d := d + 4) (lo := 1) (hi := 20) hS hB (MX_M hX3) (MX_s hX3) (MX_b hX3) hnf) rfl rfl (ix_34 (j := (8 * i + 7)) (sh_238 hS) (by omega) (by omega) (by omega) (ex_58 ?_))))))))))))
  exact cx24_b (s := s) (l := l) (c := c) (x := nx b n s) hS hB hi ((u2_q (by decide)).trans ((u2_k (by decide)).trans u2_e)) ((u2_q (by decide)).trans u2_e) (MLF_w (fun q k a1 a2 a3 => (u2_o (by omega)).trans ((u2_o (by omega)).trans ((MLF_trans (MLF_MCF hC2.2.2.2.2.2.2 (Or.inr rfl)) (MLF_MFr (MFr_MKF (c := 0) f3))) q k a1 a2 a3))) (Or.inr rfl)) (by rw [hr]; unfold st3; rw [if_pos hti, if_neg hnu]; rfl)
theorem cx21 {d : Nat} {G : am_G} {I J : Nat → Nat → Int} {P : Nat → Nat → Option Nat} (hS : ST G P) {b : Nat → Int} {n : Nat} (hB : TB b n) {s l c i : Nat} {c0 v : Nat} {o1 o2 : Option Fn} {r : Nat ⊕ (Nat × Nat × Oc)} (hi : i < 12) (hv4 : v < 4) (hn1 : o1 = none ↔ v = 3) (hn2 : o2 = none ↔ ¬ v = 0) (hC : CO I J b n i c0 s l c v o1 o2) (hr : r = bnd (st3 b n s) (fun t => st4K b n true v o1 o2 t.2 t.1 l)) : am_ex (am_call am_B am_M (d + 8)) (am_B 275) (am_B 275 21) [some (.inr (.inr (some 208))), some (.inl (v : Int)), some (.inl ((8 * i : Nat) : Int)), some (.inl 8)] [] (G, J, P) (QK G P b n true 238 MO I c0 i r) := by
  by_cases hti : tk b n s = [116, 105, 109, 101, 115]
  · have hnx := nx_2 (b := b) s (tk_lt (MX_s hC.1) hti)
    have hnw2 := num_wo (b := b) hnx.2
    by_cases hnu : 1 ≤ num b n (nx b n s) ∧ num b n (nx b n s) ≤ 20
    · have hm2 : ms b n (nx b n s) = 2 := hnw2.1.mpr (by omega)
      have := hnw2.2 hm2
      exact cx21_t hS hB hi hv4 hn1 hn2 hC hr hti hm2 (by omega)
    · exact cx21_f hS hB hi hv4 hn1 hn2 hC hr hti hnu
  · exact cx21_n hS hB hi hv4 hn1 hn2 hC hr hti
