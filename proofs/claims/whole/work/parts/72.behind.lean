/-! ===== the reference reads: what comes behind sums and tests ===== -/
theorem c_bindsV {d : Nat} {h : am_H} {o v : Int} (hv : bd o = v) : am_call am_B am_M (d + 1) 208 [.inl o] h = some (some (.inl v), h) := by
  obtain ⟨G, I, P⟩ := h
  exact hv ▸ c_binds
theorem bd_s {o : Int} (h : 20 ≤ o ∧ o ≤ 24) : 5 ≤ bd o ∧ (22 ≤ o → bd o = 6) ∧ (o < 22 → bd o = 5) := by
  unfold bd
  rw [if_neg (by omega), if_neg (by omega), if_neg (by omega), if_neg (by omega), if_neg (by omega)]
  split <;> omega
theorem bd_t {o : Int} (h : 20 ≤ o ∧ o ≤ 30) : 1 ≤ bd o ∧ (¬ o = 30 → 2 ≤ bd o) ∧ (28 ≤ o → bd o ≤ 3) ∧ (25 ≤ o → bd o ≤ 4) := by
  unfold bd
  (repeat' split) <;> omega
section
variable {J I1 : Nat → Nat → Int} {b : Nat → Int} {n : Nat} {od : Bool} {s l c p op : Nat}
/-- pushed, and the next token -/
theorem MR_pn {o a : Int} (h : MR J b n od s l c p op) (hl : s < n) (hn : n ≤ 400) (ho : 20 ≤ o ∧ o ≤ 32) (ha : (o = 29 ∨ o = 30) → ∃ x : Nat, x < 400 ∧ a = (x : Int)) (m : MK I1 b n (nx b n s)) (f : MKF (am_u2 (am_u2 (am_u2 J 221 p o) 222 p a) 208 29 ((p : Int) + 1)) I1) : MR I1 b n od (nx b n s) l c (p + 1) op := by
  obtain ⟨hM, hs, h50, h19, h20, h26, h30, h8, ⟨h23, h29, hcp, hE⟩, hc0, hK⟩ := h
  have hx := nx_2 (b := b) s hl
  have g : ∀ q k, ¬ (q = 221 ∧ k = p) → ¬ (q = 222 ∧ k = p) → ¬ (q = 208 ∧ (k = 29 ∨ (14 ≤ k ∧ k ≤ 17))) → I1 q k = J q k := fun q k a1 a2 a3 => (f q k (by omega)).trans ((u2_o (by omega)).trans ((u2_o a2).trans (u2_o a1)))
  refine ⟨m, hx.2, h50, ⟨(g _ _ (by omega) (by omega) (by omega)).trans h19.1, (g _ _ (by omega) (by omega) (by omega)).trans h19.2⟩, (g _ _ (by omega) (by omega) (by omega)).trans h20, (g _ _ (by omega) (by omega) (by omega)).trans h26, (g _ _ (by omega) (by omega) (by omega)).trans h30, h8, ⟨(g _ _ (by omega) (by omega) (by omega)).trans h23, (f _ _ (by omega)).trans u2_e, by omega, fun j hj => ?_⟩, by omega, KM_fr hK (fun q k hq => g q k (by omega) (by omega) (by omega))⟩
  by_cases e : j = p
  · subst e
    rw [f 221 j (by omega), f 222 j (by omega), u2_q (by decide), u2_q (by decide), u2_e, u2_q (by decide), u2_e]
    exact ⟨ho.1, ho.2, fun hao => ha hao⟩
  · rw [g 221 j (by omega) (by omega) (by omega), g 222 j (by omega) (by omega) (by omega)]
    exact hE j (by omega)
/-- settled -/
theorem MR_set {m c1 a : Nat} (h : MR J b n od s l c (p + m) op) (f : SF a c J I1) (h29 : I1 208 29 = (p : Int)) (h23 : I1 208 23 = (c1 : Int)) (hc : c1 + p ≤ c + (p + m)) : MR I1 b n od s l c1 p op := by
  obtain ⟨hM, hs, h50, h19, h20, h26, h30, h8, ⟨_, _, hcp, hE⟩, hc0, hK⟩ := h
  exact ⟨MK_fr hM (fun q k hq => f _ _ (by omega) (by omega) (by omega)), hs, h50, ⟨(f _ _ (by omega) (by omega) (by omega)).trans h19.1, (f _ _ (by omega) (by omega) (by omega)).trans h19.2⟩, (f _ _ (by omega) (by omega) (by omega)).trans h20, (f _ _ (by omega) (by omega) (by omega)).trans h26, (f _ _ (by omega) (by omega) (by omega)).trans h30, h8, ⟨h23, h29, by omega, fun j hj => by rw [f 221 j (by omega) (by omega) (by omega), f 222 j (by omega) (by omega) (by omega)]; exact hE j (by omega)⟩, by omega, KM_fr hK (fun q k hq => f _ _ (by omega) (by omega) (by omega))⟩
theorem MR_pop (h : MR J b n od s l c (p + 1) op) : MR (am_u2 J 208 29 (p : Int)) b n od s l c p op := by
  obtain ⟨hM, hs, h50, h19, h20, h26, h30, h8, ⟨h23, h29, hcp, hE⟩, hc0, hK⟩ := h
  exact ⟨MK_fr hM (fun q k hq => u2_o (by omega)), hs, h50, ⟨(u2_k (by decide)).trans h19.1, (u2_k (by decide)).trans h19.2⟩, (u2_k (by decide)).trans h20, (u2_k (by decide)).trans h26, (u2_k (by decide)).trans h30, h8, ⟨(u2_k (by decide)).trans h23, u2_e, by omega, fun j hj => by rw [u2_q (by decide), u2_q (by decide)]; exact hE j (by omega)⟩, by omega, KM_fr hK (fun q k hq => u2_q (by omega))⟩
end
/-- pushed, emitted, and the next token -/
theorem MR_pen {J I1 : Nat → Nat → Int} {b : Nat → Int} {n : Nat} {od : Bool} {s l c p op : Nat} {o : Int} (h : MR J b n od s l c p op) (hl : s < n) (hn : n ≤ 400) (h2 : s + 2 ≤ nx b n s) (ho : 20 ≤ o ∧ o ≤ 32) (m : MK I1 b n (nx b n s)) (f : MKF (am_u2 (am_u2 (am_u2 (am_u2 (am_u2 (am_u2 J 221 p o) 222 p (c : Int)) 208 29 ((p : Int) + 1)) 219 c o) 220 c 0) 208 23 ((c : Int) + 1)) I1) : MR I1 b n od (nx b n s) l (c + 1) (p + 1) op := by
  obtain ⟨hM, hs, h50, h19, h20, h26, h30, h8, ⟨h23, h29, hcp, hE⟩, hc0, hK⟩ := h
  have hx := nx_2 (b := b) s hl
  have g : ∀ q k, ¬ (q = 221 ∧ k = p) → ¬ (q = 222 ∧ k = p) → ¬ (q = 208 ∧ (k = 23 ∨ k = 29 ∨ (14 ≤ k ∧ k ≤ 17))) → ¬ q = 219 → ¬ q = 220 → I1 q k = J q k := fun q k a1 a2 a3 a4 a5 => (f q k (by omega)).trans ((u2_o (by omega)).trans ((u2_q a5).trans ((u2_q a4).trans ((u2_o (by omega)).trans ((u2_o a2).trans (u2_o a1))))))
  refine ⟨m, hx.2, h50, ⟨(g _ _ (by omega) (by omega) (by omega) (by omega) (by omega)).trans h19.1, (g _ _ (by omega) (by omega) (by omega) (by omega) (by omega)).trans h19.2⟩, (g _ _ (by omega) (by omega) (by omega) (by omega) (by omega)).trans h20, (g _ _ (by omega) (by omega) (by omega) (by omega) (by omega)).trans h26, (g _ _ (by omega) (by omega) (by omega) (by omega) (by omega)).trans h30, h8, ⟨(f _ _ (by omega)).trans u2_e, (f _ _ (by omega)).trans ((u2_k (by decide)).trans ((u2_q (by decide)).trans ((u2_q (by decide)).trans u2_e))), by omega, fun j hj => ?_⟩, by omega, KM_fr hK (fun q k hq => g q k (by omega) (by omega) (by omega) (by omega) (by omega))⟩
  by_cases e : j = p
  · subst e
    rw [f 221 j (by omega), f 222 j (by omega), u2_q (by decide), u2_q (by decide), u2_q (by decide), u2_q (by decide), u2_q (by decide), u2_e, u2_q (by decide), u2_q (by decide), u2_q (by decide), u2_q (by decide), u2_e]
    exact ⟨ho.1, ho.2, fun _ => ⟨c, by omega, rfl⟩⟩
  · rw [g 221 j (by omega) (by omega) (by omega) (by omega) (by omega), g 222 j (by omega) (by omega) (by omega) (by omega) (by omega)]
    exact hE j (by omega)
theorem c_plain_not {d : Nat} {G : am_G} {I : Nat → Nat → Int} {P : Nat → Nat → Option Nat} (hS : ST G P) {b : Nat → Int} {n : Nat} (hB : TB b n) {od : Bool} {s l c p op : Nat} (hR : MR I b n od s l c p op) (hno : tk b n s = [110, 111, 116]) : ∃ I1, am_call am_B am_M (d + 4) 217 [(.inr (.inr (some 208)))] (G, I, P) = some ((some (.inl 0)), (G, I1, P)) ∧ (MR I1 b n od (nx b n s) l c (p + 1) op ∧ I1 221 p = 28 ∧ MFr c p I I1) := by
  have hn4 := hB.1
  have hs := MR_s hR
  have hcp := MR_cp hR
  have hlt := tk_lt hs hno
  have w : am_ex (am_call am_B am_M (d + 3)) (am_B 217) (am_B 217 0) [some (.inr (.inr (some 208)))] [] (G, I, P) (fun o => ∃ I1, o = ((some (.inl 0)), (G, I1, P)) ∧ (MR I1 b n od (nx b n s) l c (p + 1) op ∧ I1 221 p = 28 ∧ MFr c p I I1)) := by
    refine (ex_6_0 (ex_1 (ix_46 (S' := [(.inl 1)]) rfl (sh_208 hS) (c_isW_t hS hB (MR_M hR) (MR_s hR) (v := 14836) [110, 111, 116] (lets_of rfl) (by decide) (by decide) hno) rfl rfl (ex_if0 (fun hc => by exfalso; revert hc; decide) (fun _ => ?_)))))
    refine (ex_6_0 (ex_0 (ex_0 (ix_46 (S' := []) rfl (sh_208 hS) (c_push (p := p) hS (MR_P hR).2.1 (by omega)) rfl rfl (ex_6_0 ?_)))))
    obtain ⟨I1, e1, m1, f1⟩ := c_next (d := d + 1) hS hB (I := (am_u2 (am_u2 (am_u2 I 221 p 28) 222 p 0) 208 29 ((p : Int) + 1))) (s := s) (MK_fr (MR_M hR) (fun q k hq => (u2_o (by omega)).trans ((u2_o (by omega)).trans (u2_o (by omega))))) hs
    refine (ix_46 (S' := []) rfl (sh_208 hS) e1 rfl rfl (ex_0 ?_))
    exact ex_53 ⟨_, rfl, MR_pn hR hlt hn4 (by decide) (fun h => absurd h (by decide)) m1 f1, (f1 _ _ (by omega)).trans ((u2_q (by decide)).trans ((u2_q (by decide)).trans u2_e)), MFr_trans (MFr_push (Nat.le_refl _)) (MFr_MK f1) (Nat.le_refl _) (Nat.le_refl _)⟩
  obtain ⟨o, e, I1, rfl, h⟩ := am_doQ (as := [(.inr (.inr (some 208)))]) (Nat.le_of_ble_eq_true rfl) rfl w
  exact ⟨I1, e, h⟩
theorem c_plain_bt {d : Nat} {G : am_G} {I : Nat → Nat → Int} {P : Nat → Nat → Option Nat} (hS : ST G P) {b : Nat → Int} {n : Nat} (hB : TB b n) {od : Bool} {s l c p op : Nat} (hR : MR I b n od s l c p op) (hno : ¬ tk b n s = [110, 111, 116]) (h40 : tk b n s = [40]) (hop : op < 8) : ∃ I1, am_call am_B am_M (d + 6) 217 [(.inr (.inr (some 208)))] (G, I, P) = some ((some (.inl 0)), (G, I1, P)) ∧ (MR I1 b n od (nx b n s) l c (p + 1) (op + 1) ∧ I1 221 p = 31 ∧ MFr c p I I1) := by
  have w : am_ex (am_call am_B am_M (d + 5)) (am_B 217) (am_B 217 0) [some (.inr (.inr (some 208)))] [] (G, I, P) (fun o => ∃ I1, o = ((some (.inl 0)), (G, I1, P)) ∧ (MR I1 b n od (nx b n s) l c (p + 1) (op + 1) ∧ I1 221 p = 31 ∧ MFr c p I I1)) := by
    refine (ex_6_0 (ex_1 (ix_46 (S' := [(.inl 0)]) rfl (sh_208 hS) (c_isW_f hS hB (MR_M hR) (MR_s hR) (v := 14836) [110, 111, 116] (lets_of rfl) (by decide) (by decide) hno) rfl rfl (ex_if0 (fun _ => ?_) (fun hc => by exfalso; revert hc; decide)))))
    refine (ex_6_0 (ex_0 (ix_46 (S' := [(.inl 1)]) rfl (sh_208 hS) (c_isS_t hS hB (MR_M hR) (MR_s hR) (v := 40) (by decide) h40) rfl rfl (ex_if0 (fun hc => by exfalso; revert hc; decide) (fun _ => ?_)))))
    refine (ex_6_0 (ex_0 ?_))
    obtain ⟨I1, e1, r1, p1, f1⟩ := c_open_t (d := d + 1) (ov := 31) hS hB hR (Or.inl rfl) hop (tk_lt (MR_s hR) h40)
    refine (ix_46 (S' := []) rfl (sh_208 hS) e1 rfl rfl (ex_0 ?_))
    exact ex_53 ⟨_, rfl, r1, p1, f1⟩
  obtain ⟨o, e, I1, rfl, h⟩ := am_doQ (as := [(.inr (.inr (some 208)))]) (Nat.le_of_ble_eq_true rfl) rfl w
  exact ⟨I1, e, h⟩
theorem c_plain_bf {d : Nat} {G : am_G} {I : Nat → Nat → Int} {P : Nat → Nat → Option Nat} (hS : ST G P) {b : Nat → Int} {n : Nat} (hB : TB b n) {od : Bool} {s l c p op : Nat} (hR : MR I b n od s l c p op) (hno : ¬ tk b n s = [110, 111, 116]) (h40 : tk b n s = [40]) (hop : op = 8) : am_call am_B am_M (d + 6) 217 [(.inr (.inr (some 208)))] (G, I, P) = some (some (.inl 0), (G, am_u2 (am_u2 I 208 19 1) 208 18 (s : Int), P)) := by
  refine am_doL (L := [some (.inr (.inr (some 208)))]) (Nat.le_of_ble_eq_true rfl) rfl ?_
  refine (ex_6_0 (ex_1 (ix_46 (S' := [(.inl 0)]) rfl (sh_208 hS) (c_isW_f hS hB (MR_M hR) (MR_s hR) (v := 14836) [110, 111, 116] (lets_of rfl) (by decide) (by decide) hno) rfl rfl (ex_if0 (fun _ => ?_) (fun hc => by exfalso; revert hc; decide)))))
  refine (ex_6_0 (ex_0 (ix_46 (S' := [(.inl 1)]) rfl (sh_208 hS) (c_isS_t hS hB (MR_M hR) (MR_s hR) (v := 40) (by decide) h40) rfl rfl (ex_if0 (fun hc => by exfalso; revert hc; decide) (fun _ => ?_)))))
  refine (ex_6_0 (ex_0 (ix_46 (S' := []) rfl (sh_208 hS) (c_open_f (d := d + 1) hS hB hR hop) rfl rfl (ex_0 ?_))))
  exact ex_53 rfl
theorem c_plain_p {d : Nat} {G : am_G} {I : Nat → Nat → Int} {P : Nat → Nat → Option Nat} (hS : ST G P) {b : Nat → Int} {n : Nat} (hB : TB b n) {od : Bool} {s l c p op : Nat} (hR : MR I b n od s l c p op) (hno : ¬ tk b n s = [110, 111, 116]) (h40 : ¬ tk b n s = [40]) {t : Int} {J : Nat → Nat → Int} (e : am_call am_B am_M (d + 5) 216 [.inr (.inr (some 208))] (G, I, P) = some (some (.inl t), (G, J, P))) : am_call am_B am_M (d + 6) 217 [(.inr (.inr (some 208)))] (G, I, P) = some (some (.inl t), (G, J, P)) := by
  refine am_doL (L := [some (.inr (.inr (some 208)))]) (Nat.le_of_ble_eq_true rfl) rfl ?_
  refine (ex_6_0 (ex_1 (ix_46 (S' := [(.inl 0)]) rfl (sh_208 hS) (c_isW_f hS hB (MR_M hR) (MR_s hR) (v := 14836) [110, 111, 116] (lets_of rfl) (by decide) (by decide) hno) rfl rfl (ex_if0 (fun _ => ?_) (fun hc => by exfalso; revert hc; decide)))))
  refine (ex_6_0 (ex_0 (ix_46 (S' := [(.inl 0)]) rfl (sh_208 hS) (c_isS_f hS hB (MR_M hR) (MR_s hR) (v := 40) (by decide) h40) rfl rfl (ex_if0 (fun _ => ?_) (fun hc => by exfalso; revert hc; decide)))))
  refine (ex_6_0 (ix_46 (S' := [(.inl t)]) rfl (sh_208 hS) e rfl rfl ?_))
  exact ex_53 rfl
theorem c_bs_20 {d : Nat} {G : am_G} {I : Nat → Nat → Int} {P : Nat → Nat → Option Nat} (hS : ST G P) {b : Nat → Int} {n : Nat} (hB : TB b n) {od : Bool} {s l c p op m a D : Nat} {f : Fn} (hR : MR I b n od s l c (p + m) op) (hN : PN od I m p a c D f) {te : Int} (htk : tk b n s = [43]) (hlow : p = 0 ∨ bd (I 221 (p - 1)) < 5) (hE : ∀ j, p ≤ j → j < p + m → (20 ≤ I 221 j ∧ I 221 j ≤ 30) ∧ 5 ≤ bd (I 221 j)) : ∃ I1, am_call am_B am_M (d + 4) 218 [(.inr (.inr (some 208))), (.inl te)] (G, I, P) = some ((some (.inl 1)), (G, I1, P)) ∧ (∃ c1, MR I1 b n od (nx b n s) l c1 (p + 1) op ∧ MS od (I1 219) (I1 220) a c1 D f ∧ I1 221 p = 20 ∧ MFr a p I I1) := by
  have hn4 := hB.1
  have hs := MR_s hR
  have hcp := MR_cp hR
  have hlt := tk_lt hs htk
  have hac := PN_lt _ _ _ _ _ _ hN
  have w : am_ex (am_call am_B am_M (d + 3)) (am_B 218) (am_B 218 0) [some (.inr (.inr (some 208))), some (.inl te), none, none] [] (G, I, P) (fun o => ∃ I1, o = ((some (.inl 1)), (G, I1, P)) ∧ (∃ c1, MR I1 b n od (nx b n s) l c1 (p + 1) op ∧ MS od (I1 219) (I1 220) a c1 D f ∧ I1 221 p = 20 ∧ MFr a p I I1)) := by
    refine (ex_6_0 (ex_0 (ix_46 (S' := [(.inl 1)]) rfl (sh_208 hS) (c_isS_t hS hB (MR_M hR) (MR_s hR) (v := 43) (by decide) htk) rfl rfl (ex_if0 (fun hc => by exfalso; revert hc; decide) (fun _ => ?_)))))
    refine (ex_0 (ex_28 (ex_7_2 rfl (ex_4_2 (ex_0 (ex_ic0 (fun hc => by exfalso; revert hc; decide) (fun _ => ?_)))))))
    refine (ex_6_0 (ex_4_2 (ix_45 (S' := [(.inl 5), (.inr (.inr (some 208)))]) rfl (c_bindsV (v := 5) (by decide)) rfl rfl ?_)))
    obtain ⟨J1, c1, es, hM1, hc1, hcp1, h291, h231, fs⟩ := c_settle (d := d + 1) (lst := 5) hS hlow hN hE (MR_P hR).2.1 (MR_P hR).1 (by have := (MR_P hR).2.2.1; omega)
    have rs := MR_set hR fs h291 h231 hcp1
    refine (ix_46 (S' := []) rfl (sh_208 hS) es rfl rfl (ex_6_0 (ex_4_2 (ex_0 (ix_46 (S' := []) rfl (sh_208 hS) (c_push (p := p) hS h291 (by omega)) rfl rfl (ex_6_0 ?_))))))
    obtain ⟨I1, e1, m1, f1⟩ := c_next (d := d + 1) hS hB (I := (am_u2 (am_u2 (am_u2 J1 221 p 20) 222 p 0) 208 29 ((p : Int) + 1))) (s := s) (MK_fr (MR_M rs) (fun q k hq => (u2_o (by omega)).trans ((u2_o (by omega)).trans (u2_o (by omega))))) hs
    refine (ix_46 (S' := []) rfl (sh_208 hS) e1 rfl rfl (ex_0 ?_))
    exact ex_53 ⟨_, rfl, c1, MR_pn rs hlt hn4 (by decide) (fun h => absurd h (by decide)) m1 f1, MS_congr hM1 (fun k _ _ => ⟨(f1 _ _ (by omega)).trans ((u2_q (by decide)).trans ((u2_q (by decide)).trans (u2_q (by decide)))), (f1 _ _ (by omega)).trans ((u2_q (by decide)).trans ((u2_q (by decide)).trans (u2_q (by decide))))⟩), (f1 _ _ (by omega)).trans ((u2_q (by decide)).trans ((u2_q (by decide)).trans u2_e)), MFr_trans (MFr_SF fs (by omega)) (MFr_trans (MFr_push (Nat.le_refl _)) (MFr_MK f1) (Nat.le_refl _) (Nat.le_refl _)) (Nat.le_refl _) (Nat.le_refl _)⟩
  obtain ⟨o, e, I1, rfl, h⟩ := am_doQ (as := [(.inr (.inr (some 208))), (.inl te)]) (Nat.le_of_ble_eq_true rfl) rfl w
  exact ⟨I1, e, h⟩
theorem c_bs_21 {d : Nat} {G : am_G} {I : Nat → Nat → Int} {P : Nat → Nat → Option Nat} (hS : ST G P) {b : Nat → Int} {n : Nat} (hB : TB b n) {od : Bool} {s l c p op m a D : Nat} {f : Fn} (hR : MR I b n od s l c (p + m) op) (hN : PN od I m p a c D f) {te : Int} (htk : tk b n s = [45]) (hlow : p = 0 ∨ bd (I 221 (p - 1)) < 5) (hE : ∀ j, p ≤ j → j < p + m → (20 ≤ I 221 j ∧ I 221 j ≤ 30) ∧ 5 ≤ bd (I 221 j)) : ∃ I1, am_call am_B am_M (d + 4) 218 [(.inr (.inr (some 208))), (.inl te)] (G, I, P) = some ((some (.inl 1)), (G, I1, P)) ∧ (∃ c1, MR I1 b n od (nx b n s) l c1 (p + 1) op ∧ MS od (I1 219) (I1 220) a c1 D f ∧ I1 221 p = 21 ∧ MFr a p I I1) := by
  have hn4 := hB.1
  have hs := MR_s hR
  have hcp := MR_cp hR
  have hlt := tk_lt hs htk
  have hac := PN_lt _ _ _ _ _ _ hN
  have w : am_ex (am_call am_B am_M (d + 3)) (am_B 218) (am_B 218 0) [some (.inr (.inr (some 208))), some (.inl te), none, none] [] (G, I, P) (fun o => ∃ I1, o = ((some (.inl 1)), (G, I1, P)) ∧ (∃ c1, MR I1 b n od (nx b n s) l c1 (p + 1) op ∧ MS od (I1 219) (I1 220) a c1 D f ∧ I1 221 p = 21 ∧ MFr a p I I1)) := by
    refine (ex_6_0 (ex_0 (ix_46 (S' := [(.inl 0)]) rfl (sh_208 hS) (c_isS_f hS hB (MR_M hR) (MR_s hR) (v := 43) (by decide) (by rw [htk]; decide)) rfl rfl (ex_if0 (fun _ => ?_) (fun hc => by exfalso; revert hc; decide)))))
    refine (ex_6_0 (ex_0 (ix_46 (S' := [(.inl 1)]) rfl (sh_208 hS) (c_isS_t hS hB (MR_M hR) (MR_s hR) (v := 45) (by decide) htk) rfl rfl (ex_if0 (fun hc => by exfalso; revert hc; decide) (fun _ => ?_)))))
    refine (ex_0 (ex_28 (ex_7_2 rfl (ex_4_2 (ex_0 (ex_ic0 (fun hc => by exfalso; revert hc; decide) (fun _ => ?_)))))))
    refine (ex_6_0 (ex_4_2 (ix_45 (S' := [(.inl 5), (.inr (.inr (some 208)))]) rfl (c_bindsV (v := 5) (by decide)) rfl rfl ?_)))
    obtain ⟨J1, c1, es, hM1, hc1, hcp1, h291, h231, fs⟩ := c_settle (d := d + 1) (lst := 5) hS hlow hN hE (MR_P hR).2.1 (MR_P hR).1 (by have := (MR_P hR).2.2.1; omega)
    have rs := MR_set hR fs h291 h231 hcp1
    refine (ix_46 (S' := []) rfl (sh_208 hS) es rfl rfl (ex_6_0 (ex_4_2 (ex_0 (ix_46 (S' := []) rfl (sh_208 hS) (c_push (p := p) hS h291 (by omega)) rfl rfl (ex_6_0 ?_))))))
    obtain ⟨I1, e1, m1, f1⟩ := c_next (d := d + 1) hS hB (I := (am_u2 (am_u2 (am_u2 J1 221 p 21) 222 p 0) 208 29 ((p : Int) + 1))) (s := s) (MK_fr (MR_M rs) (fun q k hq => (u2_o (by omega)).trans ((u2_o (by omega)).trans (u2_o (by omega))))) hs
    refine (ix_46 (S' := []) rfl (sh_208 hS) e1 rfl rfl (ex_0 ?_))
    exact ex_53 ⟨_, rfl, c1, MR_pn rs hlt hn4 (by decide) (fun h => absurd h (by decide)) m1 f1, MS_congr hM1 (fun k _ _ => ⟨(f1 _ _ (by omega)).trans ((u2_q (by decide)).trans ((u2_q (by decide)).trans (u2_q (by decide)))), (f1 _ _ (by omega)).trans ((u2_q (by decide)).trans ((u2_q (by decide)).trans (u2_q (by decide))))⟩), (f1 _ _ (by omega)).trans ((u2_q (by decide)).trans ((u2_q (by decide)).trans u2_e)), MFr_trans (MFr_SF fs (by omega)) (MFr_trans (MFr_push (Nat.le_refl _)) (MFr_MK f1) (Nat.le_refl _) (Nat.le_refl _)) (Nat.le_refl _) (Nat.le_refl _)⟩
  obtain ⟨o, e, I1, rfl, h⟩ := am_doQ (as := [(.inr (.inr (some 208))), (.inl te)]) (Nat.le_of_ble_eq_true rfl) rfl w
  exact ⟨I1, e, h⟩
theorem c_bs_22 {d : Nat} {G : am_G} {I : Nat → Nat → Int} {P : Nat → Nat → Option Nat} (hS : ST G P) {b : Nat → Int} {n : Nat} (hB : TB b n) {od : Bool} {s l c p op m a D : Nat} {f : Fn} (hR : MR I b n od s l c (p + m) op) (hN : PN od I m p a c D f) {te : Int} (htk : tk b n s = [42]) (hlow : p = 0 ∨ bd (I 221 (p - 1)) < 6) (hE : ∀ j, p ≤ j → j < p + m → (20 ≤ I 221 j ∧ I 221 j ≤ 30) ∧ 6 ≤ bd (I 221 j)) : ∃ I1, am_call am_B am_M (d + 4) 218 [(.inr (.inr (some 208))), (.inl te)] (G, I, P) = some ((some (.inl 1)), (G, I1, P)) ∧ (∃ c1, MR I1 b n od (nx b n s) l c1 (p + 1) op ∧ MS od (I1 219) (I1 220) a c1 D f ∧ I1 221 p = 22 ∧ MFr a p I I1) := by
  have hn4 := hB.1
  have hs := MR_s hR
  have hcp := MR_cp hR
  have hlt := tk_lt hs htk
  have hac := PN_lt _ _ _ _ _ _ hN
  have w : am_ex (am_call am_B am_M (d + 3)) (am_B 218) (am_B 218 0) [some (.inr (.inr (some 208))), some (.inl te), none, none] [] (G, I, P) (fun o => ∃ I1, o = ((some (.inl 1)), (G, I1, P)) ∧ (∃ c1, MR I1 b n od (nx b n s) l c1 (p + 1) op ∧ MS od (I1 219) (I1 220) a c1 D f ∧ I1 221 p = 22 ∧ MFr a p I I1)) := by
    refine (ex_6_0 (ex_0 (ix_46 (S' := [(.inl 0)]) rfl (sh_208 hS) (c_isS_f hS hB (MR_M hR) (MR_s hR) (v := 43) (by decide) (by rw [htk]; decide)) rfl rfl (ex_if0 (fun _ => ?_) (fun hc => by exfalso; revert hc; decide)))))
    refine (ex_6_0 (ex_0 (ix_46 (S' := [(.inl 0)]) rfl (sh_208 hS) (c_isS_f hS hB (MR_M hR) (MR_s hR) (v := 45) (by decide) (by rw [htk]; decide)) rfl rfl (ex_if0 (fun _ => ?_) (fun hc => by exfalso; revert hc; decide)))))
    refine (ex_6_0 (ex_0 (ix_46 (S' := [(.inl 1)]) rfl (sh_208 hS) (c_isS_t hS hB (MR_M hR) (MR_s hR) (v := 42) (by decide) htk) rfl rfl (ex_if0 (fun hc => by exfalso; revert hc; decide) (fun _ => ?_)))))
    refine (ex_0 (ex_28 (ex_7_2 rfl (ex_4_2 (ex_0 (ex_ic0 (fun hc => by exfalso; revert hc; decide) (fun _ => ?_)))))))
    refine (ex_6_0 (ex_4_2 (ix_45 (S' := [(.inl 6), (.inr (.inr (some 208)))]) rfl (c_bindsV (v := 6) (by decide)) rfl rfl ?_)))
    obtain ⟨J1, c1, es, hM1, hc1, hcp1, h291, h231, fs⟩ := c_settle (d := d + 1) (lst := 6) hS hlow hN hE (MR_P hR).2.1 (MR_P hR).1 (by have := (MR_P hR).2.2.1; omega)
    have rs := MR_set hR fs h291 h231 hcp1
    refine (ix_46 (S' := []) rfl (sh_208 hS) es rfl rfl (ex_6_0 (ex_4_2 (ex_0 (ix_46 (S' := []) rfl (sh_208 hS) (c_push (p := p) hS h291 (by omega)) rfl rfl (ex_6_0 ?_))))))
    obtain ⟨I1, e1, m1, f1⟩ := c_next (d := d + 1) hS hB (I := (am_u2 (am_u2 (am_u2 J1 221 p 22) 222 p 0) 208 29 ((p : Int) + 1))) (s := s) (MK_fr (MR_M rs) (fun q k hq => (u2_o (by omega)).trans ((u2_o (by omega)).trans (u2_o (by omega))))) hs
    refine (ix_46 (S' := []) rfl (sh_208 hS) e1 rfl rfl (ex_0 ?_))
    exact ex_53 ⟨_, rfl, c1, MR_pn rs hlt hn4 (by decide) (fun h => absurd h (by decide)) m1 f1, MS_congr hM1 (fun k _ _ => ⟨(f1 _ _ (by omega)).trans ((u2_q (by decide)).trans ((u2_q (by decide)).trans (u2_q (by decide)))), (f1 _ _ (by omega)).trans ((u2_q (by decide)).trans ((u2_q (by decide)).trans (u2_q (by decide))))⟩), (f1 _ _ (by omega)).trans ((u2_q (by decide)).trans ((u2_q (by decide)).trans u2_e)), MFr_trans (MFr_SF fs (by omega)) (MFr_trans (MFr_push (Nat.le_refl _)) (MFr_MK f1) (Nat.le_refl _) (Nat.le_refl _)) (Nat.le_refl _) (Nat.le_refl _)⟩
  obtain ⟨o, e, I1, rfl, h⟩ := am_doQ (as := [(.inr (.inr (some 208))), (.inl te)]) (Nat.le_of_ble_eq_true rfl) rfl w
  exact ⟨I1, e, h⟩
theorem c_bs_23 {d : Nat} {G : am_G} {I : Nat → Nat → Int} {P : Nat → Nat → Option Nat} (hS : ST G P) {b : Nat → Int} {n : Nat} (hB : TB b n) {od : Bool} {s l c p op m a D : Nat} {f : Fn} (hR : MR I b n od s l c (p + m) op) (hN : PN od I m p a c D f) {te : Int} (htk : tk b n s = [47]) (hlow : p = 0 ∨ bd (I 221 (p - 1)) < 6) (hE : ∀ j, p ≤ j → j < p + m → (20 ≤ I 221 j ∧ I 221 j ≤ 30) ∧ 6 ≤ bd (I 221 j)) : ∃ I1, am_call am_B am_M (d + 4) 218 [(.inr (.inr (some 208))), (.inl te)] (G, I, P) = some ((some (.inl 1)), (G, I1, P)) ∧ (∃ c1, MR I1 b n od (nx b n s) l c1 (p + 1) op ∧ MS od (I1 219) (I1 220) a c1 D f ∧ I1 221 p = 23 ∧ MFr a p I I1) := by
  have hn4 := hB.1
  have hs := MR_s hR
  have hcp := MR_cp hR
  have hlt := tk_lt hs htk
  have hac := PN_lt _ _ _ _ _ _ hN
  have w : am_ex (am_call am_B am_M (d + 3)) (am_B 218) (am_B 218 0) [some (.inr (.inr (some 208))), some (.inl te), none, none] [] (G, I, P) (fun o => ∃ I1, o = ((some (.inl 1)), (G, I1, P)) ∧ (∃ c1, MR I1 b n od (nx b n s) l c1 (p + 1) op ∧ MS od (I1 219) (I1 220) a c1 D f ∧ I1 221 p = 23 ∧ MFr a p I I1)) := by
    refine (ex_6_0 (ex_0 (ix_46 (S' := [(.inl 0)]) rfl (sh_208 hS) (c_isS_f hS hB (MR_M hR) (MR_s hR) (v := 43) (by decide) (by rw [htk]; decide)) rfl rfl (ex_if0 (fun _ => ?_) (fun hc => by exfalso; revert hc; decide)))))
    refine (ex_6_0 (ex_0 (ix_46 (S' := [(.inl 0)]) rfl (sh_208 hS) (c_isS_f hS hB (MR_M hR) (MR_s hR) (v := 45) (by decide) (by rw [htk]; decide)) rfl rfl (ex_if0 (fun _ => ?_) (fun hc => by exfalso; revert hc; decide)))))
    refine (ex_6_0 (ex_0 (ix_46 (S' := [(.inl 0)]) rfl (sh_208 hS) (c_isS_f hS hB (MR_M hR) (MR_s hR) (v := 42) (by decide) (by rw [htk]; decide)) rfl rfl (ex_if0 (fun _ => ?_) (fun hc => by exfalso; revert hc; decide)))))
    refine (ex_6_0 (ex_0 (ix_46 (S' := [(.inl 1)]) rfl (sh_208 hS) (c_isS_t hS hB (MR_M hR) (MR_s hR) (v := 47) (by decide) htk) rfl rfl (ex_if0 (fun hc => by exfalso; revert hc; decide) (fun _ => ?_)))))
    refine (ex_0 (ex_28 (ex_7_2 rfl (ex_4_2 (ex_0 (ex_ic0 (fun hc => by exfalso; revert hc; decide) (fun _ => ?_)))))))
    refine (ex_6_0 (ex_4_2 (ix_45 (S' := [(.inl 6), (.inr (.inr (some 208)))]) rfl (c_bindsV (v := 6) (by decide)) rfl rfl ?_)))
    obtain ⟨J1, c1, es, hM1, hc1, hcp1, h291, h231, fs⟩ := c_settle (d := d + 1) (lst := 6) hS hlow hN hE (MR_P hR).2.1 (MR_P hR).1 (by have := (MR_P hR).2.2.1; omega)
    have rs := MR_set hR fs h291 h231 hcp1
    refine (ix_46 (S' := []) rfl (sh_208 hS) es rfl rfl (ex_6_0 (ex_4_2 (ex_0 (ix_46 (S' := []) rfl (sh_208 hS) (c_push (p := p) hS h291 (by omega)) rfl rfl (ex_6_0 ?_))))))
    obtain ⟨I1, e1, m1, f1⟩ := c_next (d := d + 1) hS hB (I := (am_u2 (am_u2 (am_u2 J1 221 p 23) 222 p 0) 208 29 ((p : Int) + 1))) (s := s) (MK_fr (MR_M rs) (fun q k hq => (u2_o (by omega)).trans ((u2_o (by omega)).trans (u2_o (by omega))))) hs
    refine (ix_46 (S' := []) rfl (sh_208 hS) e1 rfl rfl (ex_0 ?_))
    exact ex_53 ⟨_, rfl, c1, MR_pn rs hlt hn4 (by decide) (fun h => absurd h (by decide)) m1 f1, MS_congr hM1 (fun k _ _ => ⟨(f1 _ _ (by omega)).trans ((u2_q (by decide)).trans ((u2_q (by decide)).trans (u2_q (by decide)))), (f1 _ _ (by omega)).trans ((u2_q (by decide)).trans ((u2_q (by decide)).trans (u2_q (by decide))))⟩), (f1 _ _ (by omega)).trans ((u2_q (by decide)).trans ((u2_q (by decide)).trans u2_e)), MFr_trans (MFr_SF fs (by omega)) (MFr_trans (MFr_push (Nat.le_refl _)) (MFr_MK f1) (Nat.le_refl _) (Nat.le_refl _)) (Nat.le_refl _) (Nat.le_refl _)⟩
  obtain ⟨o, e, I1, rfl, h⟩ := am_doQ (as := [(.inr (.inr (some 208))), (.inl te)]) (Nat.le_of_ble_eq_true rfl) rfl w
  exact ⟨I1, e, h⟩
theorem c_bs_24 {d : Nat} {G : am_G} {I : Nat → Nat → Int} {P : Nat → Nat → Option Nat} (hS : ST G P) {b : Nat → Int} {n : Nat} (hB : TB b n) {od : Bool} {s l c p op m a D : Nat} {f : Fn} (hR : MR I b n od s l c (p + m) op) (hN : PN od I m p a c D f) {te : Int} (htk : tk b n s = [37]) (hlow : p = 0 ∨ bd (I 221 (p - 1)) < 6) (hE : ∀ j, p ≤ j → j < p + m → (20 ≤ I 221 j ∧ I 221 j ≤ 30) ∧ 6 ≤ bd (I 221 j)) : ∃ I1, am_call am_B am_M (d + 4) 218 [(.inr (.inr (some 208))), (.inl te)] (G, I, P) = some ((some (.inl 1)), (G, I1, P)) ∧ (∃ c1, MR I1 b n od (nx b n s) l c1 (p + 1) op ∧ MS od (I1 219) (I1 220) a c1 D f ∧ I1 221 p = 24 ∧ MFr a p I I1) := by
  have hn4 := hB.1
  have hs := MR_s hR
  have hcp := MR_cp hR
  have hlt := tk_lt hs htk
  have hac := PN_lt _ _ _ _ _ _ hN
  have w : am_ex (am_call am_B am_M (d + 3)) (am_B 218) (am_B 218 0) [some (.inr (.inr (some 208))), some (.inl te), none, none] [] (G, I, P) (fun o => ∃ I1, o = ((some (.inl 1)), (G, I1, P)) ∧ (∃ c1, MR I1 b n od (nx b n s) l c1 (p + 1) op ∧ MS od (I1 219) (I1 220) a c1 D f ∧ I1 221 p = 24 ∧ MFr a p I I1)) := by
    refine (ex_6_0 (ex_0 (ix_46 (S' := [(.inl 0)]) rfl (sh_208 hS) (c_isS_f hS hB (MR_M hR) (MR_s hR) (v := 43) (by decide) (by rw [htk]; decide)) rfl rfl (ex_if0 (fun _ => ?_) (fun hc => by exfalso; revert hc; decide)))))
    refine (ex_6_0 (ex_0 (ix_46 (S' := [(.inl 0)]) rfl (sh_208 hS) (c_isS_f hS hB (MR_M hR) (MR_s hR) (v := 45) (by decide) (by rw [htk]; decide)) rfl rfl (ex_if0 (fun _ => ?_) (fun hc => by exfalso; revert hc; decide)))))
    refine (ex_6_0 (ex_0 (ix_46 (S' := [(.inl 0)]) rfl (sh_208 hS) (c_isS_f hS hB (MR_M hR) (MR_s hR) (v := 42) (by decide) (by rw [htk]; decide)) rfl rfl (ex_if0 (fun _ => ?_) (fun hc => by exfalso; revert hc; decide)))))
    refine (ex_6_0 (ex_0 (ix_46 (S' := [(.inl 0)]) rfl (sh_208 hS) (c_isS_f hS hB (MR_M hR) (MR_s hR) (v := 47) (by decide) (by rw [htk]; decide)) rfl rfl (ex_if0 (fun _ => ?_) (fun hc => by exfalso; revert hc; decide)))))
    refine (ex_6_0 (ex_0 (ix_46 (S' := [(.inl 1)]) rfl (sh_208 hS) (c_isS_t hS hB (MR_M hR) (MR_s hR) (v := 37) (by decide) htk) rfl rfl (ex_if0 (fun hc => by exfalso; revert hc; decide) (fun _ => ?_)))))
    refine (ex_0 (ex_28 (ex_7_2 rfl (ex_4_2 (ex_0 (ex_ic0 (fun hc => by exfalso; revert hc; decide) (fun _ => ?_)))))))
    refine (ex_6_0 (ex_4_2 (ix_45 (S' := [(.inl 6), (.inr (.inr (some 208)))]) rfl (c_bindsV (v := 6) (by decide)) rfl rfl ?_)))
    obtain ⟨J1, c1, es, hM1, hc1, hcp1, h291, h231, fs⟩ := c_settle (d := d + 1) (lst := 6) hS hlow hN hE (MR_P hR).2.1 (MR_P hR).1 (by have := (MR_P hR).2.2.1; omega)
    have rs := MR_set hR fs h291 h231 hcp1
    refine (ix_46 (S' := []) rfl (sh_208 hS) es rfl rfl (ex_6_0 (ex_4_2 (ex_0 (ix_46 (S' := []) rfl (sh_208 hS) (c_push (p := p) hS h291 (by omega)) rfl rfl (ex_6_0 ?_))))))
    obtain ⟨I1, e1, m1, f1⟩ := c_next (d := d + 1) hS hB (I := (am_u2 (am_u2 (am_u2 J1 221 p 24) 222 p 0) 208 29 ((p : Int) + 1))) (s := s) (MK_fr (MR_M rs) (fun q k hq => (u2_o (by omega)).trans ((u2_o (by omega)).trans (u2_o (by omega))))) hs
    refine (ix_46 (S' := []) rfl (sh_208 hS) e1 rfl rfl (ex_0 ?_))
    exact ex_53 ⟨_, rfl, c1, MR_pn rs hlt hn4 (by decide) (fun h => absurd h (by decide)) m1 f1, MS_congr hM1 (fun k _ _ => ⟨(f1 _ _ (by omega)).trans ((u2_q (by decide)).trans ((u2_q (by decide)).trans (u2_q (by decide)))), (f1 _ _ (by omega)).trans ((u2_q (by decide)).trans ((u2_q (by decide)).trans (u2_q (by decide))))⟩), (f1 _ _ (by omega)).trans ((u2_q (by decide)).trans ((u2_q (by decide)).trans u2_e)), MFr_trans (MFr_SF fs (by omega)) (MFr_trans (MFr_push (Nat.le_refl _)) (MFr_MK f1) (Nat.le_refl _) (Nat.le_refl _)) (Nat.le_refl _) (Nat.le_refl _)⟩
  obtain ⟨o, e, I1, rfl, h⟩ := am_doQ (as := [(.inr (.inr (some 208))), (.inl te)]) (Nat.le_of_ble_eq_true rfl) rfl w
  exact ⟨I1, e, h⟩
theorem c_innV {d : Nat} {G : am_G} {I : Nat → Nat → Int} {P : Nat → Nat → Option Nat} (hS : ST G P) {p : Nat} {v : Int} (h29 : I 208 29 = (p : Int)) (hp : p ≤ 400) (h : inrF (I 221) p = v) : am_call am_B am_M (d + 1) 210 [.inr (.inr (some 208))] (G, I, P) = some (some (.inl v), (G, I, P)) := h ▸ c_inner hS h29 hp
theorem c_iscV {d : Nat} {G : am_G} {I : Nat → Nat → Int} {P : Nat → Nat → Option Nat} (hS : ST G P) {p : Nat} {v : Int} (h29 : I 208 29 = (p : Int)) (hp : p ≤ 400) (h : (if isc (I 221) p = true then (1 : Int) else 0) = v) : am_call am_B am_M (d + 2) 211 [.inr (.inr (some 208))] (G, I, P) = some (some (.inl v), (G, I, P)) := h ▸ c_isc hS h29 hp
theorem c_sq_t {d : Nat} {G : am_G} {I : Nat → Nat → Int} {P : Nat → Nat → Option Nat} (hS : ST G P) {b : Nat → Int} {n : Nat} (hB : TB b n) {od : Bool} {s l c p op m a D : Nat} {f : Fn} (hR : MR I b n od s l c (p + 1 + m) op) (hN : PN od I m (p + 1) a c D f) {te : Int} (hn43 : ¬ tk b n s = [43]) (hn45 : ¬ tk b n s = [45]) (hn42 : ¬ tk b n s = [42]) (hn47 : ¬ tk b n s = [47]) (hn37 : ¬ tk b n s = [37]) (hbr : I 221 p = 32) (hE : ∀ j, p + 1 ≤ j → j < p + 1 + m → 20 ≤ I 221 j ∧ I 221 j ≤ 24) (hop : 0 < op) (hcl : tk b n s = [93]) : ∃ I1, am_call am_B am_M (d + 4) 218 [(.inr (.inr (some 208))), (.inl te)] (G, I, P) = some ((some (.inl 3)), (G, I1, P)) ∧ (∃ c1, MR I1 b n od (nx b n s) l c1 p (op - 1) ∧ MS od (I1 219) (I1 220) a c1 D f ∧ c ≤ c1 ∧ MFr a p I I1) := by
  have hn4 := hB.1
  have hs := MR_s hR
  have hcp := MR_cp hR
  have hlt := tk_lt hs hcl
  have hac := PN_lt _ _ _ _ _ _ hN
  have hinn : inrF (I 221) (p + 1 + m) = 32 := by rw [inrF_ext m (fun j a1 a2 => by have := hE j a1 a2; omega), inrF_succ, hbr]; rfl
  have h8 := MR_8 hR
  have w : am_ex (am_call am_B am_M (d + 3)) (am_B 218) (am_B 218 0) [some (.inr (.inr (some 208))), some (.inl te), none, none] [] (G, I, P) (fun o => ∃ I1, o = ((some (.inl 3)), (G, I1, P)) ∧ (∃ c1, MR I1 b n od (nx b n s) l c1 p (op - 1) ∧ MS od (I1 219) (I1 220) a c1 D f ∧ c ≤ c1 ∧ MFr a p I I1)) := by
    refine (ex_6_0 (ex_0 (ix_46 (S' := [(.inl 0)]) rfl (sh_208 hS) (c_isS_f hS hB (MR_M hR) (MR_s hR) (v := 43) (by decide) hn43) rfl rfl (ex_if0 (fun _ => ?_) (fun hc => by exfalso; revert hc; decide)))))
    refine (ex_6_0 (ex_0 (ix_46 (S' := [(.inl 0)]) rfl (sh_208 hS) (c_isS_f hS hB (MR_M hR) (MR_s hR) (v := 45) (by decide) hn45) rfl rfl (ex_if0 (fun _ => ?_) (fun hc => by exfalso; revert hc; decide)))))
    refine (ex_6_0 (ex_0 (ix_46 (S' := [(.inl 0)]) rfl (sh_208 hS) (c_isS_f hS hB (MR_M hR) (MR_s hR) (v := 42) (by decide) hn42) rfl rfl (ex_if0 (fun _ => ?_) (fun hc => by exfalso; revert hc; decide)))))
    refine (ex_6_0 (ex_0 (ix_46 (S' := [(.inl 0)]) rfl (sh_208 hS) (c_isS_f hS hB (MR_M hR) (MR_s hR) (v := 47) (by decide) hn47) rfl rfl (ex_if0 (fun _ => ?_) (fun hc => by exfalso; revert hc; decide)))))
    refine (ex_6_0 (ex_0 (ix_46 (S' := [(.inl 0)]) rfl (sh_208 hS) (c_isS_f hS hB (MR_M hR) (MR_s hR) (v := 37) (by decide) hn37) rfl rfl (ex_if0 (fun _ => ?_) (fun hc => by exfalso; revert hc; decide)))))
    refine (ex_0 (ex_58 (ex_7_2 rfl (ex_4_2 (ex_0 (ex_ic0 (fun _ => ?_) (fun hc => by exfalso; revert hc; decide)))))))
    refine (ex_6_0 (ix_46 (S' := [(.inl 32)]) rfl (sh_208 hS) (c_innV (v := 32) hS (MR_P hR).2.1 (by have := (MR_P hR).2.2.1; omega) hinn) rfl rfl (ex_7_3 rfl (ex_4_3 (ex_0 (ex_ic1 (fun hc => by exfalso; revert hc; decide) (fun _ => ?_)))))))
    refine (ex_6_0 (ex_6_0 (ex_0 (ix_46 (S' := [(.inl 1), (.inr (.inr (some 208)))]) rfl (sh_208 hS) (c_isS_t hS hB (MR_M hR) (MR_s hR) (v := 93) (by decide) hcl) rfl rfl ?_))))
    obtain ⟨I2, e2, m2, f2⟩ := c_must_t (d := d) hS hB (MR_M hR) (MR_s hR) (MR_b hR)
    have r2 := MR_next hR hlt m2 f2
    have hN2 : PN od I2 m (p + 1) a c D f := PN_congr _ _ _ _ _ _ hN (fun k _ _ => ⟨f2 _ _ (by omega), f2 _ _ (by omega)⟩) (fun j _ _ => ⟨f2 _ _ (by omega), f2 _ _ (by omega)⟩)
    refine (ix_46 (S' := []) rfl (sh_208 hS) e2 rfl rfl (ex_6_0 (ix_41i (v := 0) (sh_208 hS) (MR_b r2) (ex_if1 (fun hc => by exfalso; revert hc; decide) (fun _ => ?_)))))
    refine (ex_6_0 (ex_0 ?_))
    obtain ⟨J1, c1, es, hM1, hc1, hcp1, h291, h231, fs⟩ := c_settle (d := d + 1) (lst := 5) hS (Or.inr (by rw [show p + 1 - 1 = p by omega, f2 _ _ (by omega), hbr]; decide)) hN2 (fun j a1 a2 => by rw [f2 _ _ (by omega)]; exact ⟨⟨by have := hE j a1 a2; omega, by have := hE j a1 a2; omega⟩, (bd_s (hE j a1 a2)).1⟩) (MR_P r2).2.1 (MR_P r2).1 (by have := (MR_P r2).2.2.1; omega)
    have rs := MR_set r2 fs h291 h231 hcp1
    refine (ix_46 (S' := []) rfl (sh_208 hS) es rfl rfl (ex_6_0 (ex_22 rfl (ix_41i (v := ((p + 1 : Nat) : Int)) (sh_208 hS) (MR_P rs).2.1 (ex_0 (ex_11e (v := (p : Int)) ((am_sub ⟨by omega, by omega⟩).trans (by omega)) (ix_42i (sh_208 hS) (ex_6_0 (ex_22 rfl (ix_41i (v := (op : Int)) (sh_208 hS) ((u2_k (by decide)).trans (MR_30 rs)) (ex_0 (ex_11e (v := ((op - 1 : Nat) : Int)) ((am_sub ⟨by omega, by omega⟩).trans (by omega)) (ix_42i (sh_208 hS) (ex_58 (ex_0 ?_)))))))))))))))
    exact ex_53 ⟨_, rfl, c1, MR_30w (op' := op - 1) (MR_pop rs) (by have := MR_8 rs; omega), MS_congr hM1 (fun k _ _ => ⟨(u2_q (by decide)).trans (u2_q (by decide)), (u2_q (by decide)).trans (u2_q (by decide))⟩), hc1, MFr_trans (MFr_MK f2) (MFr_trans (MFr_SF fs (by omega)) (MFr_trans (MFr_w (by decide)) (MFr_w (by decide)) (Nat.le_refl _) (Nat.le_refl _)) (Nat.le_refl _) (Nat.le_refl _)) (Nat.le_refl _) (Nat.le_refl _)⟩
  obtain ⟨o, e, I1, rfl, h⟩ := am_doQ (as := [(.inr (.inr (some 208))), (.inl te)]) (Nat.le_of_ble_eq_true rfl) rfl w
  exact ⟨I1, e, h⟩
theorem c_sq_f {d : Nat} {G : am_G} {I : Nat → Nat → Int} {P : Nat → Nat → Option Nat} (hS : ST G P) {b : Nat → Int} {n : Nat} (hB : TB b n) {od : Bool} {s l c p op m a D : Nat} {f : Fn} (hR : MR I b n od s l c (p + 1 + m) op) (hN : PN od I m (p + 1) a c D f) {te : Int} (hn43 : ¬ tk b n s = [43]) (hn45 : ¬ tk b n s = [45]) (hn42 : ¬ tk b n s = [42]) (hn47 : ¬ tk b n s = [47]) (hn37 : ¬ tk b n s = [37]) (hbr : I 221 p = 32) (hE : ∀ j, p + 1 ≤ j → j < p + 1 + m → 20 ≤ I 221 j ∧ I 221 j ≤ 24) (hcl : ¬ tk b n s = [93]) : am_call am_B am_M (d + 4) 218 [(.inr (.inr (some 208))), (.inl te)] (G, I, P) = some (some (.inl 3), (G, am_u2 (am_u2 I 208 19 1) 208 18 (s : Int), P)) := by
  have hn4 := hB.1
  have hs := MR_s hR
  have hcp := MR_cp hR
  have hinn : inrF (I 221) (p + 1 + m) = 32 := by rw [inrF_ext m (fun j a1 a2 => by have := hE j a1 a2; omega), inrF_succ, hbr]; rfl
  refine am_doL (L := [some (.inr (.inr (some 208))), some (.inl te), none, none]) (Nat.le_of_ble_eq_true rfl) rfl ?_
  refine (ex_6_0 (ex_0 (ix_46 (S' := [(.inl 0)]) rfl (sh_208 hS) (c_isS_f hS hB (MR_M hR) (MR_s hR) (v := 43) (by decide) hn43) rfl rfl (ex_if0 (fun _ => ?_) (fun hc => by exfalso; revert hc; decide)))))
  refine (ex_6_0 (ex_0 (ix_46 (S' := [(.inl 0)]) rfl (sh_208 hS) (c_isS_f hS hB (MR_M hR) (MR_s hR) (v := 45) (by decide) hn45) rfl rfl (ex_if0 (fun _ => ?_) (fun hc => by exfalso; revert hc; decide)))))
  refine (ex_6_0 (ex_0 (ix_46 (S' := [(.inl 0)]) rfl (sh_208 hS) (c_isS_f hS hB (MR_M hR) (MR_s hR) (v := 42) (by decide) hn42) rfl rfl (ex_if0 (fun _ => ?_) (fun hc => by exfalso; revert hc; decide)))))
  refine (ex_6_0 (ex_0 (ix_46 (S' := [(.inl 0)]) rfl (sh_208 hS) (c_isS_f hS hB (MR_M hR) (MR_s hR) (v := 47) (by decide) hn47) rfl rfl (ex_if0 (fun _ => ?_) (fun hc => by exfalso; revert hc; decide)))))
  refine (ex_6_0 (ex_0 (ix_46 (S' := [(.inl 0)]) rfl (sh_208 hS) (c_isS_f hS hB (MR_M hR) (MR_s hR) (v := 37) (by decide) hn37) rfl rfl (ex_if0 (fun _ => ?_) (fun hc => by exfalso; revert hc; decide)))))
  refine (ex_0 (ex_58 (ex_7_2 rfl (ex_4_2 (ex_0 (ex_ic0 (fun _ => ?_) (fun hc => by exfalso; revert hc; decide)))))))
  refine (ex_6_0 (ix_46 (S' := [(.inl 32)]) rfl (sh_208 hS) (c_innV (v := 32) hS (MR_P hR).2.1 (by have := (MR_P hR).2.2.1; omega) hinn) rfl rfl (ex_7_3 rfl (ex_4_3 (ex_0 (ex_ic1 (fun hc => by exfalso; revert hc; decide) (fun _ => ?_)))))))
  refine (ex_6_0 (ex_6_0 (ex_0 (ix_46 (S' := [(.inl 0), (.inr (.inr (some 208)))]) rfl (sh_208 hS) (c_isS_f hS hB (MR_M hR) (MR_s hR) (v := 93) (by decide) hcl) rfl rfl (ix_46 (S' := []) rfl (sh_208 hS) (c_must_f hS (MR_M hR).2.1 (MR_b hR)) rfl rfl (ex_6_0 (ix_41i (v := 1) (sh_208 hS) ((u2_k (by decide)).trans u2_e) (ex_if1 (fun _ => ?_) (fun hc => by exfalso; revert hc; decide)))))))))
  refine (ex_0 ?_)
  exact ex_53 rfl
theorem c_bs_over {d : Nat} {G : am_G} {I : Nat → Nat → Int} {P : Nat → Nat → Option Nat} (hS : ST G P) {b : Nat → Int} {n : Nat} (hB : TB b n) {od : Bool} {s l c p op : Nat} (hR : MR I b n od s l c p op) (hn43 : ¬ tk b n s = [43]) (hn45 : ¬ tk b n s = [45]) (hn42 : ¬ tk b n s = [42]) (hn47 : ¬ tk b n s = [47]) (hn37 : ¬ tk b n s = [37]) (hinn : inrF (I 221) p = -1) : am_call am_B am_M (d + 4) 218 [(.inr (.inr (some 208))), (.inl 0)] (G, I, P) = some (some (.inl 4), (G, I, P)) := by
  refine am_doL (L := [some (.inr (.inr (some 208))), some (.inl 0), none, none]) (Nat.le_of_ble_eq_true rfl) rfl ?_
  refine (ex_6_0 (ex_0 (ix_46 (S' := [(.inl 0)]) rfl (sh_208 hS) (c_isS_f hS hB (MR_M hR) (MR_s hR) (v := 43) (by decide) hn43) rfl rfl (ex_if0 (fun _ => ?_) (fun hc => by exfalso; revert hc; decide)))))
  refine (ex_6_0 (ex_0 (ix_46 (S' := [(.inl 0)]) rfl (sh_208 hS) (c_isS_f hS hB (MR_M hR) (MR_s hR) (v := 45) (by decide) hn45) rfl rfl (ex_if0 (fun _ => ?_) (fun hc => by exfalso; revert hc; decide)))))
  refine (ex_6_0 (ex_0 (ix_46 (S' := [(.inl 0)]) rfl (sh_208 hS) (c_isS_f hS hB (MR_M hR) (MR_s hR) (v := 42) (by decide) hn42) rfl rfl (ex_if0 (fun _ => ?_) (fun hc => by exfalso; revert hc; decide)))))
  refine (ex_6_0 (ex_0 (ix_46 (S' := [(.inl 0)]) rfl (sh_208 hS) (c_isS_f hS hB (MR_M hR) (MR_s hR) (v := 47) (by decide) hn47) rfl rfl (ex_if0 (fun _ => ?_) (fun hc => by exfalso; revert hc; decide)))))
  refine (ex_6_0 (ex_0 (ix_46 (S' := [(.inl 0)]) rfl (sh_208 hS) (c_isS_f hS hB (MR_M hR) (MR_s hR) (v := 37) (by decide) hn37) rfl rfl (ex_if0 (fun _ => ?_) (fun hc => by exfalso; revert hc; decide)))))
  refine (ex_0 (ex_58 (ex_7_2 rfl (ex_4_2 (ex_0 (ex_ic0 (fun _ => ?_) (fun hc => by exfalso; revert hc; decide)))))))
  refine (ex_6_0 (ix_46 (S' := [(.inl (-1))]) rfl (sh_208 hS) (c_innV (v := (-1)) hS (MR_P hR).2.1 (by have := (MR_P hR).2.2.1; omega) hinn) rfl rfl (ex_7_3 rfl (ex_4_3 (ex_0 (ex_ic1 (fun _ => ?_) (fun hc => by exfalso; revert hc; decide)))))))
  refine (ex_4_3 (ex_0 (ex_ic1 (fun hc => by exfalso; revert hc; decide) (fun _ => ?_))))
  refine (ex_4_1 (ex_if1 (fun hc => by exfalso; revert hc; decide) (fun _ => ?_)))
  refine (ex_0 ?_)
  exact ex_53 rfl
theorem c_bs_cd_m {d : Nat} {G : am_G} {I : Nat → Nat → Int} {P : Nat → Nat → Option Nat} (hS : ST G P) {b : Nat → Int} {n : Nat} (hB : TB b n) {od : Bool} {s l c p op : Nat} (hR : MR I b n od s l c p op) (hn43 : ¬ tk b n s = [43]) (hn45 : ¬ tk b n s = [45]) (hn42 : ¬ tk b n s = [42]) (hn47 : ¬ tk b n s = [47]) (hn37 : ¬ tk b n s = [37]) (hinn : inrF (I 221) p = -1) (hisc : isc (I 221) p = true) : am_call am_B am_M (d + 4) 218 [(.inr (.inr (some 208))), (.inl 1)] (G, I, P) = some (some (.inl 2), (G, I, P)) := by
  refine am_doL (L := [some (.inr (.inr (some 208))), some (.inl 1), none, none]) (Nat.le_of_ble_eq_true rfl) rfl ?_
  refine (ex_6_0 (ex_0 (ix_46 (S' := [(.inl 0)]) rfl (sh_208 hS) (c_isS_f hS hB (MR_M hR) (MR_s hR) (v := 43) (by decide) hn43) rfl rfl (ex_if0 (fun _ => ?_) (fun hc => by exfalso; revert hc; decide)))))
  refine (ex_6_0 (ex_0 (ix_46 (S' := [(.inl 0)]) rfl (sh_208 hS) (c_isS_f hS hB (MR_M hR) (MR_s hR) (v := 45) (by decide) hn45) rfl rfl (ex_if0 (fun _ => ?_) (fun hc => by exfalso; revert hc; decide)))))
  refine (ex_6_0 (ex_0 (ix_46 (S' := [(.inl 0)]) rfl (sh_208 hS) (c_isS_f hS hB (MR_M hR) (MR_s hR) (v := 42) (by decide) hn42) rfl rfl (ex_if0 (fun _ => ?_) (fun hc => by exfalso; revert hc; decide)))))
  refine (ex_6_0 (ex_0 (ix_46 (S' := [(.inl 0)]) rfl (sh_208 hS) (c_isS_f hS hB (MR_M hR) (MR_s hR) (v := 47) (by decide) hn47) rfl rfl (ex_if0 (fun _ => ?_) (fun hc => by exfalso; revert hc; decide)))))
  refine (ex_6_0 (ex_0 (ix_46 (S' := [(.inl 0)]) rfl (sh_208 hS) (c_isS_f hS hB (MR_M hR) (MR_s hR) (v := 37) (by decide) hn37) rfl rfl (ex_if0 (fun _ => ?_) (fun hc => by exfalso; revert hc; decide)))))
  refine (ex_0 (ex_58 (ex_7_2 rfl (ex_4_2 (ex_0 (ex_ic0 (fun _ => ?_) (fun hc => by exfalso; revert hc; decide)))))))
  refine (ex_6_0 (ix_46 (S' := [(.inl (-1))]) rfl (sh_208 hS) (c_innV (v := (-1)) hS (MR_P hR).2.1 (by have := (MR_P hR).2.2.1; omega) hinn) rfl rfl (ex_7_3 rfl (ex_4_3 (ex_0 (ex_ic1 (fun _ => ?_) (fun hc => by exfalso; revert hc; decide)))))))
  refine (ex_4_3 (ex_0 (ex_ic1 (fun hc => by exfalso; revert hc; decide) (fun _ => ?_))))
  refine (ex_4_1 (ex_if1 (fun _ => ?_) (fun hc => by exfalso; revert hc; decide)))
  refine (ex_6_0 (ix_46 (S' := [(.inl 1)]) rfl (sh_208 hS) (c_iscV (v := 1) hS (MR_P hR).2.1 (by have := (MR_P hR).2.2.1; omega) (by rw [if_pos hisc])) rfl rfl (ex_if0 (fun hc => by exfalso; revert hc; decide) (fun _ => ?_))))
  refine (ex_0 ?_)
  exact ex_53 rfl
theorem c_bs_cf_m {d : Nat} {G : am_G} {I : Nat → Nat → Int} {P : Nat → Nat → Option Nat} (hS : ST G P) {b : Nat → Int} {n : Nat} (hB : TB b n) {od : Bool} {s l c p op : Nat} (hR : MR I b n od s l c p op) (hn43 : ¬ tk b n s = [43]) (hn45 : ¬ tk b n s = [45]) (hn42 : ¬ tk b n s = [42]) (hn47 : ¬ tk b n s = [47]) (hn37 : ¬ tk b n s = [37]) (hinn : inrF (I 221) p = -1) (hisc : ¬ isc (I 221) p = true) (h60 : ¬ tk b n s = [60]) (h62 : ¬ tk b n s = [62]) (h61 : ¬ tk b n s = [61]) : am_call am_B am_M (d + 4) 218 [(.inr (.inr (some 208))), (.inl 1)] (G, I, P) = some (some (.inl 1), (G, am_u2 (am_u2 I 208 19 1) 208 18 (s : Int), P)) := by
  refine am_doL (L := [some (.inr (.inr (some 208))), some (.inl 1), none, none]) (Nat.le_of_ble_eq_true rfl) rfl ?_
  refine (ex_6_0 (ex_0 (ix_46 (S' := [(.inl 0)]) rfl (sh_208 hS) (c_isS_f hS hB (MR_M hR) (MR_s hR) (v := 43) (by decide) hn43) rfl rfl (ex_if0 (fun _ => ?_) (fun hc => by exfalso; revert hc; decide)))))
  refine (ex_6_0 (ex_0 (ix_46 (S' := [(.inl 0)]) rfl (sh_208 hS) (c_isS_f hS hB (MR_M hR) (MR_s hR) (v := 45) (by decide) hn45) rfl rfl (ex_if0 (fun _ => ?_) (fun hc => by exfalso; revert hc; decide)))))
  refine (ex_6_0 (ex_0 (ix_46 (S' := [(.inl 0)]) rfl (sh_208 hS) (c_isS_f hS hB (MR_M hR) (MR_s hR) (v := 42) (by decide) hn42) rfl rfl (ex_if0 (fun _ => ?_) (fun hc => by exfalso; revert hc; decide)))))
  refine (ex_6_0 (ex_0 (ix_46 (S' := [(.inl 0)]) rfl (sh_208 hS) (c_isS_f hS hB (MR_M hR) (MR_s hR) (v := 47) (by decide) hn47) rfl rfl (ex_if0 (fun _ => ?_) (fun hc => by exfalso; revert hc; decide)))))
  refine (ex_6_0 (ex_0 (ix_46 (S' := [(.inl 0)]) rfl (sh_208 hS) (c_isS_f hS hB (MR_M hR) (MR_s hR) (v := 37) (by decide) hn37) rfl rfl (ex_if0 (fun _ => ?_) (fun hc => by exfalso; revert hc; decide)))))
  refine (ex_0 (ex_58 (ex_7_2 rfl (ex_4_2 (ex_0 (ex_ic0 (fun _ => ?_) (fun hc => by exfalso; revert hc; decide)))))))
  refine (ex_6_0 (ix_46 (S' := [(.inl (-1))]) rfl (sh_208 hS) (c_innV (v := (-1)) hS (MR_P hR).2.1 (by have := (MR_P hR).2.2.1; omega) hinn) rfl rfl (ex_7_3 rfl (ex_4_3 (ex_0 (ex_ic1 (fun _ => ?_) (fun hc => by exfalso; revert hc; decide)))))))
  refine (ex_4_3 (ex_0 (ex_ic1 (fun hc => by exfalso; revert hc; decide) (fun _ => ?_))))
  refine (ex_4_1 (ex_if1 (fun _ => ?_) (fun hc => by exfalso; revert hc; decide)))
  refine (ex_6_0 (ix_46 (S' := [(.inl 0)]) rfl (sh_208 hS) (c_iscV (v := 0) hS (MR_P hR).2.1 (by have := (MR_P hR).2.2.1; omega) (by rw [if_neg hisc])) rfl rfl (ex_if0 (fun _ => ?_) (fun hc => by exfalso; revert hc; decide))))
  refine (ex_6_0 (ex_0 (ix_46 (S' := [(.inl 0)]) rfl (sh_208 hS) (c_isS_f hS hB (MR_M hR) (MR_s hR) (v := 60) (by decide) h60) rfl rfl (ex_if0 (fun _ => ?_) (fun hc => by exfalso; revert hc; decide)))))
  refine (ex_6_0 (ex_0 (ix_46 (S' := [(.inl 0)]) rfl (sh_208 hS) (c_isS_f hS hB (MR_M hR) (MR_s hR) (v := 62) (by decide) h62) rfl rfl (ex_if0 (fun _ => ?_) (fun hc => by exfalso; revert hc; decide)))))
  refine (ex_0 (ex_58 (ex_7_2 rfl (ex_6_0 (ex_4_2 (ex_0 (ex_ic1 (fun hc => by exfalso; revert hc; decide) (fun _ => ?_))))))))
  refine (ex_6_0 (ex_0 (ix_46 (S' := [(.inl 0), (.inr (.inr (some 208)))]) rfl (sh_208 hS) (c_isS_f hS hB (MR_M hR) (MR_s hR) (v := 61) (by decide) h61) rfl rfl (ex_if0 (fun _ => ?_) (fun hc => by exfalso; revert hc; decide)))))
  refine (ex_0 (ex_58 (ix_46 (S' := []) rfl (sh_208 hS) (c_must_f hS (MR_M hR).2.1 (MR_b hR)) rfl rfl (ex_6_0 (ix_41i (v := 1) (sh_208 hS) ((u2_k (by decide)).trans u2_e) (ex_if1 (fun _ => ?_) (fun hc => by exfalso; revert hc; decide)))))))
  refine (ex_0 ?_)
  exact ex_53 rfl
theorem c_bs_c25_m {d : Nat} {G : am_G} {I : Nat → Nat → Int} {P : Nat → Nat → Option Nat} (hS : ST G P) {b : Nat → Int} {n : Nat} (hB : TB b n) {od : Bool} {s l c p op m a D : Nat} {f : Fn} (hR : MR I b n od s l c (p + m) op) (hN : PN od I m p a c D f) (htk : tk b n s = [60]) (hinn : inrF (I 221) (p + m) = -1) (hisc : ¬ isc (I 221) (p + m) = true) (hlow : p = 0 ∨ bd (I 221 (p - 1)) < 5) (hE : ∀ j, p ≤ j → j < p + m → 20 ≤ I 221 j ∧ I 221 j ≤ 24) : ∃ I1, am_call am_B am_M (d + 4) 218 [(.inr (.inr (some 208))), (.inl 1)] (G, I, P) = some ((some (.inl 1)), (G, I1, P)) ∧ (∃ c1, MR I1 b n od (nx b n s) l c1 (p + 1) op ∧ MS od (I1 219) (I1 220) a c1 D f ∧ I1 221 p = 25 ∧ MFr a p I I1) := by
  have hn4 := hB.1
  have hs := MR_s hR
  have hcp := MR_cp hR
  have hlt := tk_lt hs htk
  have hnx := nx_2 (b := b) s hlt
  have hac := PN_lt _ _ _ _ _ _ hN
  have w : am_ex (am_call am_B am_M (d + 3)) (am_B 218) (am_B 218 0) [some (.inr (.inr (some 208))), some (.inl 1), none, none] [] (G, I, P) (fun o => ∃ I1, o = ((some (.inl 1)), (G, I1, P)) ∧ (∃ c1, MR I1 b n od (nx b n s) l c1 (p + 1) op ∧ MS od (I1 219) (I1 220) a c1 D f ∧ I1 221 p = 25 ∧ MFr a p I I1)) := by
    refine (ex_6_0 (ex_0 (ix_46 (S' := [(.inl 0)]) rfl (sh_208 hS) (c_isS_f hS hB (MR_M hR) (MR_s hR) (v := 43) (by decide) (by rw [htk]; decide)) rfl rfl (ex_if0 (fun _ => ?_) (fun hc => by exfalso; revert hc; decide)))))
    refine (ex_6_0 (ex_0 (ix_46 (S' := [(.inl 0)]) rfl (sh_208 hS) (c_isS_f hS hB (MR_M hR) (MR_s hR) (v := 45) (by decide) (by rw [htk]; decide)) rfl rfl (ex_if0 (fun _ => ?_) (fun hc => by exfalso; revert hc; decide)))))
    refine (ex_6_0 (ex_0 (ix_46 (S' := [(.inl 0)]) rfl (sh_208 hS) (c_isS_f hS hB (MR_M hR) (MR_s hR) (v := 42) (by decide) (by rw [htk]; decide)) rfl rfl (ex_if0 (fun _ => ?_) (fun hc => by exfalso; revert hc; decide)))))
    refine (ex_6_0 (ex_0 (ix_46 (S' := [(.inl 0)]) rfl (sh_208 hS) (c_isS_f hS hB (MR_M hR) (MR_s hR) (v := 47) (by decide) (by rw [htk]; decide)) rfl rfl (ex_if0 (fun _ => ?_) (fun hc => by exfalso; revert hc; decide)))))
    refine (ex_6_0 (ex_0 (ix_46 (S' := [(.inl 0)]) rfl (sh_208 hS) (c_isS_f hS hB (MR_M hR) (MR_s hR) (v := 37) (by decide) (by rw [htk]; decide)) rfl rfl (ex_if0 (fun _ => ?_) (fun hc => by exfalso; revert hc; decide)))))
    refine (ex_0 (ex_58 (ex_7_2 rfl (ex_4_2 (ex_0 (ex_ic0 (fun _ => ?_) (fun hc => by exfalso; revert hc; decide)))))))
    refine (ex_6_0 (ix_46 (S' := [(.inl (-1))]) rfl (sh_208 hS) (c_innV (v := (-1)) hS (MR_P hR).2.1 (by have := (MR_P hR).2.2.1; omega) hinn) rfl rfl (ex_7_3 rfl (ex_4_3 (ex_0 (ex_ic1 (fun _ => ?_) (fun hc => by exfalso; revert hc; decide)))))))
    refine (ex_4_3 (ex_0 (ex_ic1 (fun hc => by exfalso; revert hc; decide) (fun _ => ?_))))
    refine (ex_4_1 (ex_if1 (fun _ => ?_) (fun hc => by exfalso; revert hc; decide)))
    refine (ex_6_0 (ix_46 (S' := [(.inl 0)]) rfl (sh_208 hS) (c_iscV (v := 0) hS (MR_P hR).2.1 (by have := (MR_P hR).2.2.1; omega) (by rw [if_neg hisc])) rfl rfl (ex_if0 (fun _ => ?_) (fun hc => by exfalso; revert hc; decide))))
    refine (ex_6_0 (ex_0 (ix_46 (S' := [(.inl 1)]) rfl (sh_208 hS) (c_isS_t hS hB (MR_M hR) (MR_s hR) (v := 60) (by decide) htk) rfl rfl (ex_if0 (fun hc => by exfalso; revert hc; decide) (fun _ => ?_)))))
    refine (ex_0 (ex_28 (ex_7_2 rfl (ex_6_0 (ex_4_2 (ex_0 (ex_ic1 (fun _ => ?_) (fun hc => by exfalso; revert hc; decide))))))))
    refine (ex_0 (ex_28 ?_))
    obtain ⟨I2, e2, m2, f2⟩ := c_must_t (d := d) hS hB (MR_M hR) (MR_s hR) (MR_b hR)
    have r2 := MR_next hR hlt m2 f2
    have hN2 : PN od I2 m p a c D f := PN_congr _ _ _ _ _ _ hN (fun k _ _ => ⟨f2 _ _ (by omega), f2 _ _ (by omega)⟩) (fun j _ _ => ⟨f2 _ _ (by omega), f2 _ _ (by omega)⟩)
    refine (ix_46 (S' := []) rfl (sh_208 hS) e2 rfl rfl (ex_6_0 (ix_41i (v := 0) (sh_208 hS) (MR_b r2) (ex_if1 (fun hc => by exfalso; revert hc; decide) (fun _ => ?_)))))
    refine (ex_6_0 (ex_0 ?_))
    obtain ⟨J1, c1, es, hM1, hc1, hcp1, h291, h231, fs⟩ := c_settle (d := d + 1) (lst := 5) hS (by rw [f2 _ _ (by omega)]; exact hlow) hN2 (fun j a1 a2 => by rw [f2 _ _ (by omega)]; exact ⟨⟨by have := hE j a1 a2; omega, by have := hE j a1 a2; omega⟩, (bd_s (hE j a1 a2)).1⟩) (MR_P r2).2.1 (MR_P r2).1 (by have := (MR_P r2).2.2.1; omega)
    have rs := MR_set r2 fs h291 h231 hcp1
    refine (ix_46 (S' := []) rfl (sh_208 hS) es rfl rfl (ex_6_0 (ex_4_2 (ex_0 (ix_46 (S' := []) rfl (sh_208 hS) (c_push (p := p) hS h291 (by omega)) rfl rfl (ex_58 (ex_0 ?_)))))))
    exact ex_53 ⟨_, rfl, c1, MR_push (op' := 0) rs (by omega) (by decide) (fun h => absurd h (by decide)) hn4, MS_congr hM1 (fun k _ _ => ⟨(u2_q (by decide)).trans ((u2_q (by decide)).trans (u2_q (by decide))), (u2_q (by decide)).trans ((u2_q (by decide)).trans (u2_q (by decide)))⟩), (u2_q (by decide)).trans ((u2_q (by decide)).trans u2_e), MFr_trans (MFr_MK f2) (MFr_trans (MFr_SF fs (by omega)) (MFr_push (Nat.le_refl _)) (Nat.le_refl _) (Nat.le_refl _)) (Nat.le_refl _) (Nat.le_refl _)⟩
  obtain ⟨o, e, I1, rfl, h⟩ := am_doQ (as := [(.inr (.inr (some 208))), (.inl 1)]) (Nat.le_of_ble_eq_true rfl) rfl w
  exact ⟨I1, e, h⟩
theorem c_bs_c26_m {d : Nat} {G : am_G} {I : Nat → Nat → Int} {P : Nat → Nat → Option Nat} (hS : ST G P) {b : Nat → Int} {n : Nat} (hB : TB b n) {od : Bool} {s l c p op m a D : Nat} {f : Fn} (hR : MR I b n od s l c (p + m) op) (hN : PN od I m p a c D f) (htk : tk b n s = [62]) (hinn : inrF (I 221) (p + m) = -1) (hisc : ¬ isc (I 221) (p + m) = true) (hlow : p = 0 ∨ bd (I 221 (p - 1)) < 5) (hE : ∀ j, p ≤ j → j < p + m → 20 ≤ I 221 j ∧ I 221 j ≤ 24) : ∃ I1, am_call am_B am_M (d + 4) 218 [(.inr (.inr (some 208))), (.inl 1)] (G, I, P) = some ((some (.inl 1)), (G, I1, P)) ∧ (∃ c1, MR I1 b n od (nx b n s) l c1 (p + 1) op ∧ MS od (I1 219) (I1 220) a c1 D f ∧ I1 221 p = 26 ∧ MFr a p I I1) := by
  have hn4 := hB.1
  have hs := MR_s hR
  have hcp := MR_cp hR
  have hlt := tk_lt hs htk
  have hnx := nx_2 (b := b) s hlt
  have hac := PN_lt _ _ _ _ _ _ hN
  have w : am_ex (am_call am_B am_M (d + 3)) (am_B 218) (am_B 218 0) [some (.inr (.inr (some 208))), some (.inl 1), none, none] [] (G, I, P) (fun o => ∃ I1, o = ((some (.inl 1)), (G, I1, P)) ∧ (∃ c1, MR I1 b n od (nx b n s) l c1 (p + 1) op ∧ MS od (I1 219) (I1 220) a c1 D f ∧ I1 221 p = 26 ∧ MFr a p I I1)) := by
    refine (ex_6_0 (ex_0 (ix_46 (S' := [(.inl 0)]) rfl (sh_208 hS) (c_isS_f hS hB (MR_M hR) (MR_s hR) (v := 43) (by decide) (by rw [htk]; decide)) rfl rfl (ex_if0 (fun _ => ?_) (fun hc => by exfalso; revert hc; decide)))))
    refine (ex_6_0 (ex_0 (ix_46 (S' := [(.inl 0)]) rfl (sh_208 hS) (c_isS_f hS hB (MR_M hR) (MR_s hR) (v := 45) (by decide) (by rw [htk]; decide)) rfl rfl (ex_if0 (fun _ => ?_) (fun hc => by exfalso; revert hc; decide)))))
    refine (ex_6_0 (ex_0 (ix_46 (S' := [(.inl 0)]) rfl (sh_208 hS) (c_isS_f hS hB (MR_M hR) (MR_s hR) (v := 42) (by decide) (by rw [htk]; decide)) rfl rfl (ex_if0 (fun _ => ?_) (fun hc => by exfalso; revert hc; decide)))))
    refine (ex_6_0 (ex_0 (ix_46 (S' := [(.inl 0)]) rfl (sh_208 hS) (c_isS_f hS hB (MR_M hR) (MR_s hR) (v := 47) (by decide) (by rw [htk]; decide)) rfl rfl (ex_if0 (fun _ => ?_) (fun hc => by exfalso; revert hc; decide)))))
    refine (ex_6_0 (ex_0 (ix_46 (S' := [(.inl 0)]) rfl (sh_208 hS) (c_isS_f hS hB (MR_M hR) (MR_s hR) (v := 37) (by decide) (by rw [htk]; decide)) rfl rfl (ex_if0 (fun _ => ?_) (fun hc => by exfalso; revert hc; decide)))))
    refine (ex_0 (ex_58 (ex_7_2 rfl (ex_4_2 (ex_0 (ex_ic0 (fun _ => ?_) (fun hc => by exfalso; revert hc; decide)))))))
    refine (ex_6_0 (ix_46 (S' := [(.inl (-1))]) rfl (sh_208 hS) (c_innV (v := (-1)) hS (MR_P hR).2.1 (by have := (MR_P hR).2.2.1; omega) hinn) rfl rfl (ex_7_3 rfl (ex_4_3 (ex_0 (ex_ic1 (fun _ => ?_) (fun hc => by exfalso; revert hc; decide)))))))
    refine (ex_4_3 (ex_0 (ex_ic1 (fun hc => by exfalso; revert hc; decide) (fun _ => ?_))))
    refine (ex_4_1 (ex_if1 (fun _ => ?_) (fun hc => by exfalso; revert hc; decide)))
    refine (ex_6_0 (ix_46 (S' := [(.inl 0)]) rfl (sh_208 hS) (c_iscV (v := 0) hS (MR_P hR).2.1 (by have := (MR_P hR).2.2.1; omega) (by rw [if_neg hisc])) rfl rfl (ex_if0 (fun _ => ?_) (fun hc => by exfalso; revert hc; decide))))
    refine (ex_6_0 (ex_0 (ix_46 (S' := [(.inl 0)]) rfl (sh_208 hS) (c_isS_f hS hB (MR_M hR) (MR_s hR) (v := 60) (by decide) (by rw [htk]; decide)) rfl rfl (ex_if0 (fun _ => ?_) (fun hc => by exfalso; revert hc; decide)))))
    refine (ex_6_0 (ex_0 (ix_46 (S' := [(.inl 1)]) rfl (sh_208 hS) (c_isS_t hS hB (MR_M hR) (MR_s hR) (v := 62) (by decide) htk) rfl rfl (ex_if0 (fun hc => by exfalso; revert hc; decide) (fun _ => ?_)))))
    refine (ex_0 (ex_28 (ex_7_2 rfl (ex_6_0 (ex_4_2 (ex_0 (ex_ic1 (fun _ => ?_) (fun hc => by exfalso; revert hc; decide))))))))
    refine (ex_0 (ex_28 ?_))
    obtain ⟨I2, e2, m2, f2⟩ := c_must_t (d := d) hS hB (MR_M hR) (MR_s hR) (MR_b hR)
    have r2 := MR_next hR hlt m2 f2
    have hN2 : PN od I2 m p a c D f := PN_congr _ _ _ _ _ _ hN (fun k _ _ => ⟨f2 _ _ (by omega), f2 _ _ (by omega)⟩) (fun j _ _ => ⟨f2 _ _ (by omega), f2 _ _ (by omega)⟩)
    refine (ix_46 (S' := []) rfl (sh_208 hS) e2 rfl rfl (ex_6_0 (ix_41i (v := 0) (sh_208 hS) (MR_b r2) (ex_if1 (fun hc => by exfalso; revert hc; decide) (fun _ => ?_)))))
    refine (ex_6_0 (ex_0 ?_))
    obtain ⟨J1, c1, es, hM1, hc1, hcp1, h291, h231, fs⟩ := c_settle (d := d + 1) (lst := 5) hS (by rw [f2 _ _ (by omega)]; exact hlow) hN2 (fun j a1 a2 => by rw [f2 _ _ (by omega)]; exact ⟨⟨by have := hE j a1 a2; omega, by have := hE j a1 a2; omega⟩, (bd_s (hE j a1 a2)).1⟩) (MR_P r2).2.1 (MR_P r2).1 (by have := (MR_P r2).2.2.1; omega)
    have rs := MR_set r2 fs h291 h231 hcp1
    refine (ix_46 (S' := []) rfl (sh_208 hS) es rfl rfl (ex_6_0 (ex_4_2 (ex_0 (ix_46 (S' := []) rfl (sh_208 hS) (c_push (p := p) hS h291 (by omega)) rfl rfl (ex_58 (ex_0 ?_)))))))
    exact ex_53 ⟨_, rfl, c1, MR_push (op' := 0) rs (by omega) (by decide) (fun h => absurd h (by decide)) hn4, MS_congr hM1 (fun k _ _ => ⟨(u2_q (by decide)).trans ((u2_q (by decide)).trans (u2_q (by decide))), (u2_q (by decide)).trans ((u2_q (by decide)).trans (u2_q (by decide)))⟩), (u2_q (by decide)).trans ((u2_q (by decide)).trans u2_e), MFr_trans (MFr_MK f2) (MFr_trans (MFr_SF fs (by omega)) (MFr_push (Nat.le_refl _)) (Nat.le_refl _) (Nat.le_refl _)) (Nat.le_refl _) (Nat.le_refl _)⟩
  obtain ⟨o, e, I1, rfl, h⟩ := am_doQ (as := [(.inr (.inr (some 208))), (.inl 1)]) (Nat.le_of_ble_eq_true rfl) rfl w
  exact ⟨I1, e, h⟩
theorem c_bs_c27_m {d : Nat} {G : am_G} {I : Nat → Nat → Int} {P : Nat → Nat → Option Nat} (hS : ST G P) {b : Nat → Int} {n : Nat} (hB : TB b n) {od : Bool} {s l c p op m a D : Nat} {f : Fn} (hR : MR I b n od s l c (p + m) op) (hN : PN od I m p a c D f) (htk : tk b n s = [61]) (hinn : inrF (I 221) (p + m) = -1) (hisc : ¬ isc (I 221) (p + m) = true) (hlow : p = 0 ∨ bd (I 221 (p - 1)) < 5) (hE : ∀ j, p ≤ j → j < p + m → 20 ≤ I 221 j ∧ I 221 j ≤ 24) : ∃ I1, am_call am_B am_M (d + 4) 218 [(.inr (.inr (some 208))), (.inl 1)] (G, I, P) = some ((some (.inl 1)), (G, I1, P)) ∧ (∃ c1, MR I1 b n od (nx b n s) l c1 (p + 1) op ∧ MS od (I1 219) (I1 220) a c1 D f ∧ I1 221 p = 27 ∧ MFr a p I I1) := by
  have hn4 := hB.1
  have hs := MR_s hR
  have hcp := MR_cp hR
  have hlt := tk_lt hs htk
  have hnx := nx_2 (b := b) s hlt
  have hac := PN_lt _ _ _ _ _ _ hN
  have w : am_ex (am_call am_B am_M (d + 3)) (am_B 218) (am_B 218 0) [some (.inr (.inr (some 208))), some (.inl 1), none, none] [] (G, I, P) (fun o => ∃ I1, o = ((some (.inl 1)), (G, I1, P)) ∧ (∃ c1, MR I1 b n od (nx b n s) l c1 (p + 1) op ∧ MS od (I1 219) (I1 220) a c1 D f ∧ I1 221 p = 27 ∧ MFr a p I I1)) := by
    refine (ex_6_0 (ex_0 (ix_46 (S' := [(.inl 0)]) rfl (sh_208 hS) (c_isS_f hS hB (MR_M hR) (MR_s hR) (v := 43) (by decide) (by rw [htk]; decide)) rfl rfl (ex_if0 (fun _ => ?_) (fun hc => by exfalso; revert hc; decide)))))
    refine (ex_6_0 (ex_0 (ix_46 (S' := [(.inl 0)]) rfl (sh_208 hS) (c_isS_f hS hB (MR_M hR) (MR_s hR) (v := 45) (by decide) (by rw [htk]; decide)) rfl rfl (ex_if0 (fun _ => ?_) (fun hc => by exfalso; revert hc; decide)))))
    refine (ex_6_0 (ex_0 (ix_46 (S' := [(.inl 0)]) rfl (sh_208 hS) (c_isS_f hS hB (MR_M hR) (MR_s hR) (v := 42) (by decide) (by rw [htk]; decide)) rfl rfl (ex_if0 (fun _ => ?_) (fun hc => by exfalso; revert hc; decide)))))
    refine (ex_6_0 (ex_0 (ix_46 (S' := [(.inl 0)]) rfl (sh_208 hS) (c_isS_f hS hB (MR_M hR) (MR_s hR) (v := 47) (by decide) (by rw [htk]; decide)) rfl rfl (ex_if0 (fun _ => ?_) (fun hc => by exfalso; revert hc; decide)))))
    refine (ex_6_0 (ex_0 (ix_46 (S' := [(.inl 0)]) rfl (sh_208 hS) (c_isS_f hS hB (MR_M hR) (MR_s hR) (v := 37) (by decide) (by rw [htk]; decide)) rfl rfl (ex_if0 (fun _ => ?_) (fun hc => by exfalso; revert hc; decide)))))
    refine (ex_0 (ex_58 (ex_7_2 rfl (ex_4_2 (ex_0 (ex_ic0 (fun _ => ?_) (fun hc => by exfalso; revert hc; decide)))))))
    refine (ex_6_0 (ix_46 (S' := [(.inl (-1))]) rfl (sh_208 hS) (c_innV (v := (-1)) hS (MR_P hR).2.1 (by have := (MR_P hR).2.2.1; omega) hinn) rfl rfl (ex_7_3 rfl (ex_4_3 (ex_0 (ex_ic1 (fun _ => ?_) (fun hc => by exfalso; revert hc; decide)))))))
    refine (ex_4_3 (ex_0 (ex_ic1 (fun hc => by exfalso; revert hc; decide) (fun _ => ?_))))
    refine (ex_4_1 (ex_if1 (fun _ => ?_) (fun hc => by exfalso; revert hc; decide)))
    refine (ex_6_0 (ix_46 (S' := [(.inl 0)]) rfl (sh_208 hS) (c_iscV (v := 0) hS (MR_P hR).2.1 (by have := (MR_P hR).2.2.1; omega) (by rw [if_neg hisc])) rfl rfl (ex_if0 (fun _ => ?_) (fun hc => by exfalso; revert hc; decide))))
    refine (ex_6_0 (ex_0 (ix_46 (S' := [(.inl 0)]) rfl (sh_208 hS) (c_isS_f hS hB (MR_M hR) (MR_s hR) (v := 60) (by decide) (by rw [htk]; decide)) rfl rfl (ex_if0 (fun _ => ?_) (fun hc => by exfalso; revert hc; decide)))))
    refine (ex_6_0 (ex_0 (ix_46 (S' := [(.inl 0)]) rfl (sh_208 hS) (c_isS_f hS hB (MR_M hR) (MR_s hR) (v := 62) (by decide) (by rw [htk]; decide)) rfl rfl (ex_if0 (fun _ => ?_) (fun hc => by exfalso; revert hc; decide)))))
    refine (ex_0 (ex_58 (ex_7_2 rfl (ex_6_0 (ex_4_2 (ex_0 (ex_ic1 (fun hc => by exfalso; revert hc; decide) (fun _ => ?_))))))))
    refine (ex_6_0 (ex_0 (ix_46 (S' := [(.inl 1), (.inr (.inr (some 208)))]) rfl (sh_208 hS) (c_isS_t hS hB (MR_M hR) (MR_s hR) (v := 61) (by decide) htk) rfl rfl (ex_if0 (fun hc => by exfalso; revert hc; decide) (fun _ => ?_)))))
    refine (ex_0 (ex_28 ?_))
    obtain ⟨I2, e2, m2, f2⟩ := c_must_t (d := d) hS hB (MR_M hR) (MR_s hR) (MR_b hR)
    have r2 := MR_next hR hlt m2 f2
    have hN2 : PN od I2 m p a c D f := PN_congr _ _ _ _ _ _ hN (fun k _ _ => ⟨f2 _ _ (by omega), f2 _ _ (by omega)⟩) (fun j _ _ => ⟨f2 _ _ (by omega), f2 _ _ (by omega)⟩)
    refine (ix_46 (S' := []) rfl (sh_208 hS) e2 rfl rfl (ex_6_0 (ix_41i (v := 0) (sh_208 hS) (MR_b r2) (ex_if1 (fun hc => by exfalso; revert hc; decide) (fun _ => ?_)))))
    refine (ex_6_0 (ex_0 ?_))
    obtain ⟨J1, c1, es, hM1, hc1, hcp1, h291, h231, fs⟩ := c_settle (d := d + 1) (lst := 5) hS (by rw [f2 _ _ (by omega)]; exact hlow) hN2 (fun j a1 a2 => by rw [f2 _ _ (by omega)]; exact ⟨⟨by have := hE j a1 a2; omega, by have := hE j a1 a2; omega⟩, (bd_s (hE j a1 a2)).1⟩) (MR_P r2).2.1 (MR_P r2).1 (by have := (MR_P r2).2.2.1; omega)
    have rs := MR_set r2 fs h291 h231 hcp1
    refine (ix_46 (S' := []) rfl (sh_208 hS) es rfl rfl (ex_6_0 (ex_4_2 (ex_0 (ix_46 (S' := []) rfl (sh_208 hS) (c_push (p := p) hS h291 (by omega)) rfl rfl (ex_58 (ex_0 ?_)))))))
    exact ex_53 ⟨_, rfl, c1, MR_push (op' := 0) rs (by omega) (by decide) (fun h => absurd h (by decide)) hn4, MS_congr hM1 (fun k _ _ => ⟨(u2_q (by decide)).trans ((u2_q (by decide)).trans (u2_q (by decide))), (u2_q (by decide)).trans ((u2_q (by decide)).trans (u2_q (by decide)))⟩), (u2_q (by decide)).trans ((u2_q (by decide)).trans u2_e), MFr_trans (MFr_MK f2) (MFr_trans (MFr_SF fs (by omega)) (MFr_push (Nat.le_refl _)) (Nat.le_refl _) (Nat.le_refl _)) (Nat.le_refl _) (Nat.le_refl _)⟩
  obtain ⟨o, e, I1, rfl, h⟩ := am_doQ (as := [(.inr (.inr (some 208))), (.inl 1)]) (Nat.le_of_ble_eq_true rfl) rfl w
  exact ⟨I1, e, h⟩
theorem c_bs_cd_r {d : Nat} {G : am_G} {I : Nat → Nat → Int} {P : Nat → Nat → Option Nat} (hS : ST G P) {b : Nat → Int} {n : Nat} (hB : TB b n) {od : Bool} {s l c p op : Nat} (hR : MR I b n od s l c p op) (hn43 : ¬ tk b n s = [43]) (hn45 : ¬ tk b n s = [45]) (hn42 : ¬ tk b n s = [42]) (hn47 : ¬ tk b n s = [47]) (hn37 : ¬ tk b n s = [37]) (hinn : inrF (I 221) p = 31) (hisc : isc (I 221) p = true) : am_call am_B am_M (d + 4) 218 [(.inr (.inr (some 208))), (.inl 1)] (G, I, P) = some (some (.inl 2), (G, I, P)) := by
  refine am_doL (L := [some (.inr (.inr (some 208))), some (.inl 1), none, none]) (Nat.le_of_ble_eq_true rfl) rfl ?_
  refine (ex_6_0 (ex_0 (ix_46 (S' := [(.inl 0)]) rfl (sh_208 hS) (c_isS_f hS hB (MR_M hR) (MR_s hR) (v := 43) (by decide) hn43) rfl rfl (ex_if0 (fun _ => ?_) (fun hc => by exfalso; revert hc; decide)))))
  refine (ex_6_0 (ex_0 (ix_46 (S' := [(.inl 0)]) rfl (sh_208 hS) (c_isS_f hS hB (MR_M hR) (MR_s hR) (v := 45) (by decide) hn45) rfl rfl (ex_if0 (fun _ => ?_) (fun hc => by exfalso; revert hc; decide)))))
  refine (ex_6_0 (ex_0 (ix_46 (S' := [(.inl 0)]) rfl (sh_208 hS) (c_isS_f hS hB (MR_M hR) (MR_s hR) (v := 42) (by decide) hn42) rfl rfl (ex_if0 (fun _ => ?_) (fun hc => by exfalso; revert hc; decide)))))
  refine (ex_6_0 (ex_0 (ix_46 (S' := [(.inl 0)]) rfl (sh_208 hS) (c_isS_f hS hB (MR_M hR) (MR_s hR) (v := 47) (by decide) hn47) rfl rfl (ex_if0 (fun _ => ?_) (fun hc => by exfalso; revert hc; decide)))))
  refine (ex_6_0 (ex_0 (ix_46 (S' := [(.inl 0)]) rfl (sh_208 hS) (c_isS_f hS hB (MR_M hR) (MR_s hR) (v := 37) (by decide) hn37) rfl rfl (ex_if0 (fun _ => ?_) (fun hc => by exfalso; revert hc; decide)))))
  refine (ex_0 (ex_58 (ex_7_2 rfl (ex_4_2 (ex_0 (ex_ic0 (fun _ => ?_) (fun hc => by exfalso; revert hc; decide)))))))
  refine (ex_6_0 (ix_46 (S' := [(.inl 31)]) rfl (sh_208 hS) (c_innV (v := 31) hS (MR_P hR).2.1 (by have := (MR_P hR).2.2.1; omega) hinn) rfl rfl (ex_7_3 rfl (ex_4_3 (ex_0 (ex_ic1 (fun _ => ?_) (fun hc => by exfalso; revert hc; decide)))))))
  refine (ex_4_3 (ex_0 (ex_ic1 (fun _ => ?_) (fun hc => by exfalso; revert hc; decide))))
  refine (ex_6_0 (ix_46 (S' := [(.inl 1)]) rfl (sh_208 hS) (c_iscV (v := 1) hS (MR_P hR).2.1 (by have := (MR_P hR).2.2.1; omega) (by rw [if_pos hisc])) rfl rfl (ex_if0 (fun hc => by exfalso; revert hc; decide) (fun _ => ?_))))
  refine (ex_0 ?_)
  exact ex_53 rfl
theorem c_bs_cf_r {d : Nat} {G : am_G} {I : Nat → Nat → Int} {P : Nat → Nat → Option Nat} (hS : ST G P) {b : Nat → Int} {n : Nat} (hB : TB b n) {od : Bool} {s l c p op : Nat} (hR : MR I b n od s l c p op) (hn43 : ¬ tk b n s = [43]) (hn45 : ¬ tk b n s = [45]) (hn42 : ¬ tk b n s = [42]) (hn47 : ¬ tk b n s = [47]) (hn37 : ¬ tk b n s = [37]) (hinn : inrF (I 221) p = 31) (hisc : ¬ isc (I 221) p = true) (h60 : ¬ tk b n s = [60]) (h62 : ¬ tk b n s = [62]) (h61 : ¬ tk b n s = [61]) : am_call am_B am_M (d + 4) 218 [(.inr (.inr (some 208))), (.inl 1)] (G, I, P) = some (some (.inl 1), (G, am_u2 (am_u2 I 208 19 1) 208 18 (s : Int), P)) := by
  refine am_doL (L := [some (.inr (.inr (some 208))), some (.inl 1), none, none]) (Nat.le_of_ble_eq_true rfl) rfl ?_
  refine (ex_6_0 (ex_0 (ix_46 (S' := [(.inl 0)]) rfl (sh_208 hS) (c_isS_f hS hB (MR_M hR) (MR_s hR) (v := 43) (by decide) hn43) rfl rfl (ex_if0 (fun _ => ?_) (fun hc => by exfalso; revert hc; decide)))))
  refine (ex_6_0 (ex_0 (ix_46 (S' := [(.inl 0)]) rfl (sh_208 hS) (c_isS_f hS hB (MR_M hR) (MR_s hR) (v := 45) (by decide) hn45) rfl rfl (ex_if0 (fun _ => ?_) (fun hc => by exfalso; revert hc; decide)))))
  refine (ex_6_0 (ex_0 (ix_46 (S' := [(.inl 0)]) rfl (sh_208 hS) (c_isS_f hS hB (MR_M hR) (MR_s hR) (v := 42) (by decide) hn42) rfl rfl (ex_if0 (fun _ => ?_) (fun hc => by exfalso; revert hc; decide)))))
  refine (ex_6_0 (ex_0 (ix_46 (S' := [(.inl 0)]) rfl (sh_208 hS) (c_isS_f hS hB (MR_M hR) (MR_s hR) (v := 47) (by decide) hn47) rfl rfl (ex_if0 (fun _ => ?_) (fun hc => by exfalso; revert hc; decide)))))
  refine (ex_6_0 (ex_0 (ix_46 (S' := [(.inl 0)]) rfl (sh_208 hS) (c_isS_f hS hB (MR_M hR) (MR_s hR) (v := 37) (by decide) hn37) rfl rfl (ex_if0 (fun _ => ?_) (fun hc => by exfalso; revert hc; decide)))))
  refine (ex_0 (ex_58 (ex_7_2 rfl (ex_4_2 (ex_0 (ex_ic0 (fun _ => ?_) (fun hc => by exfalso; revert hc; decide)))))))
  refine (ex_6_0 (ix_46 (S' := [(.inl 31)]) rfl (sh_208 hS) (c_innV (v := 31) hS (MR_P hR).2.1 (by have := (MR_P hR).2.2.1; omega) hinn) rfl rfl (ex_7_3 rfl (ex_4_3 (ex_0 (ex_ic1 (fun _ => ?_) (fun hc => by exfalso; revert hc; decide)))))))
  refine (ex_4_3 (ex_0 (ex_ic1 (fun _ => ?_) (fun hc => by exfalso; revert hc; decide))))
  refine (ex_6_0 (ix_46 (S' := [(.inl 0)]) rfl (sh_208 hS) (c_iscV (v := 0) hS (MR_P hR).2.1 (by have := (MR_P hR).2.2.1; omega) (by rw [if_neg hisc])) rfl rfl (ex_if0 (fun _ => ?_) (fun hc => by exfalso; revert hc; decide))))
  refine (ex_6_0 (ex_0 (ix_46 (S' := [(.inl 0)]) rfl (sh_208 hS) (c_isS_f hS hB (MR_M hR) (MR_s hR) (v := 60) (by decide) h60) rfl rfl (ex_if0 (fun _ => ?_) (fun hc => by exfalso; revert hc; decide)))))
  refine (ex_6_0 (ex_0 (ix_46 (S' := [(.inl 0)]) rfl (sh_208 hS) (c_isS_f hS hB (MR_M hR) (MR_s hR) (v := 62) (by decide) h62) rfl rfl (ex_if0 (fun _ => ?_) (fun hc => by exfalso; revert hc; decide)))))
  refine (ex_0 (ex_58 (ex_7_2 rfl (ex_6_0 (ex_4_2 (ex_0 (ex_ic1 (fun hc => by exfalso; revert hc; decide) (fun _ => ?_))))))))
  refine (ex_6_0 (ex_0 (ix_46 (S' := [(.inl 0), (.inr (.inr (some 208)))]) rfl (sh_208 hS) (c_isS_f hS hB (MR_M hR) (MR_s hR) (v := 61) (by decide) h61) rfl rfl (ex_if0 (fun _ => ?_) (fun hc => by exfalso; revert hc; decide)))))
  refine (ex_0 (ex_58 (ix_46 (S' := []) rfl (sh_208 hS) (c_must_f hS (MR_M hR).2.1 (MR_b hR)) rfl rfl (ex_6_0 (ix_41i (v := 1) (sh_208 hS) ((u2_k (by decide)).trans u2_e) (ex_if1 (fun _ => ?_) (fun hc => by exfalso; revert hc; decide)))))))
  refine (ex_0 ?_)
  exact ex_53 rfl
theorem c_bs_c25_r {d : Nat} {G : am_G} {I : Nat → Nat → Int} {P : Nat → Nat → Option Nat} (hS : ST G P) {b : Nat → Int} {n : Nat} (hB : TB b n) {od : Bool} {s l c p op m a D : Nat} {f : Fn} (hR : MR I b n od s l c (p + m) op) (hN : PN od I m p a c D f) (htk : tk b n s = [60]) (hinn : inrF (I 221) (p + m) = 31) (hisc : ¬ isc (I 221) (p + m) = true) (hlow : p = 0 ∨ bd (I 221 (p - 1)) < 5) (hE : ∀ j, p ≤ j → j < p + m → 20 ≤ I 221 j ∧ I 221 j ≤ 24) : ∃ I1, am_call am_B am_M (d + 4) 218 [(.inr (.inr (some 208))), (.inl 1)] (G, I, P) = some ((some (.inl 1)), (G, I1, P)) ∧ (∃ c1, MR I1 b n od (nx b n s) l c1 (p + 1) op ∧ MS od (I1 219) (I1 220) a c1 D f ∧ I1 221 p = 25 ∧ MFr a p I I1) := by
  have hn4 := hB.1
  have hs := MR_s hR
  have hcp := MR_cp hR
  have hlt := tk_lt hs htk
  have hnx := nx_2 (b := b) s hlt
  have hac := PN_lt _ _ _ _ _ _ hN
  have w : am_ex (am_call am_B am_M (d + 3)) (am_B 218) (am_B 218 0) [some (.inr (.inr (some 208))), some (.inl 1), none, none] [] (G, I, P) (fun o => ∃ I1, o = ((some (.inl 1)), (G, I1, P)) ∧ (∃ c1, MR I1 b n od (nx b n s) l c1 (p + 1) op ∧ MS od (I1 219) (I1 220) a c1 D f ∧ I1 221 p = 25 ∧ MFr a p I I1)) := by
    refine (ex_6_0 (ex_0 (ix_46 (S' := [(.inl 0)]) rfl (sh_208 hS) (c_isS_f hS hB (MR_M hR) (MR_s hR) (v := 43) (by decide) (by rw [htk]; decide)) rfl rfl (ex_if0 (fun _ => ?_) (fun hc => by exfalso; revert hc; decide)))))
    refine (ex_6_0 (ex_0 (ix_46 (S' := [(.inl 0)]) rfl (sh_208 hS) (c_isS_f hS hB (MR_M hR) (MR_s hR) (v := 45) (by decide) (by rw [htk]; decide)) rfl rfl (ex_if0 (fun _ => ?_) (fun hc => by exfalso; revert hc; decide)))))
    refine (ex_6_0 (ex_0 (ix_46 (S' := [(.inl 0)]) rfl (sh_208 hS) (c_isS_f hS hB (MR_M hR) (MR_s hR) (v := 42) (by decide) (by rw [htk]; decide)) rfl rfl (ex_if0 (fun _ => ?_) (fun hc => by exfalso; revert hc; decide)))))
    refine (ex_6_0 (ex_0 (ix_46 (S' := [(.inl 0)]) rfl (sh_208 hS) (c_isS_f hS hB (MR_M hR) (MR_s hR) (v := 47) (by decide) (by rw [htk]; decide)) rfl rfl (ex_if0 (fun _ => ?_) (fun hc => by exfalso; revert hc; decide)))))
    refine (ex_6_0 (ex_0 (ix_46 (S' := [(.inl 0)]) rfl (sh_208 hS) (c_isS_f hS hB (MR_M hR) (MR_s hR) (v := 37) (by decide) (by rw [htk]; decide)) rfl rfl (ex_if0 (fun _ => ?_) (fun hc => by exfalso; revert hc; decide)))))
    refine (ex_0 (ex_58 (ex_7_2 rfl (ex_4_2 (ex_0 (ex_ic0 (fun _ => ?_) (fun hc => by exfalso; revert hc; decide)))))))
    refine (ex_6_0 (ix_46 (S' := [(.inl 31)]) rfl (sh_208 hS) (c_innV (v := 31) hS (MR_P hR).2.1 (by have := (MR_P hR).2.2.1; omega) hinn) rfl rfl (ex_7_3 rfl (ex_4_3 (ex_0 (ex_ic1 (fun _ => ?_) (fun hc => by exfalso; revert hc; decide)))))))
    refine (ex_4_3 (ex_0 (ex_ic1 (fun _ => ?_) (fun hc => by exfalso; revert hc; decide))))
    refine (ex_6_0 (ix_46 (S' := [(.inl 0)]) rfl (sh_208 hS) (c_iscV (v := 0) hS (MR_P hR).2.1 (by have := (MR_P hR).2.2.1; omega) (by rw [if_neg hisc])) rfl rfl (ex_if0 (fun _ => ?_) (fun hc => by exfalso; revert hc; decide))))
    refine (ex_6_0 (ex_0 (ix_46 (S' := [(.inl 1)]) rfl (sh_208 hS) (c_isS_t hS hB (MR_M hR) (MR_s hR) (v := 60) (by decide) htk) rfl rfl (ex_if0 (fun hc => by exfalso; revert hc; decide) (fun _ => ?_)))))
    refine (ex_0 (ex_28 (ex_7_2 rfl (ex_6_0 (ex_4_2 (ex_0 (ex_ic1 (fun _ => ?_) (fun hc => by exfalso; revert hc; decide))))))))
    refine (ex_0 (ex_28 ?_))
    obtain ⟨I2, e2, m2, f2⟩ := c_must_t (d := d) hS hB (MR_M hR) (MR_s hR) (MR_b hR)
    have r2 := MR_next hR hlt m2 f2
    have hN2 : PN od I2 m p a c D f := PN_congr _ _ _ _ _ _ hN (fun k _ _ => ⟨f2 _ _ (by omega), f2 _ _ (by omega)⟩) (fun j _ _ => ⟨f2 _ _ (by omega), f2 _ _ (by omega)⟩)
    refine (ix_46 (S' := []) rfl (sh_208 hS) e2 rfl rfl (ex_6_0 (ix_41i (v := 0) (sh_208 hS) (MR_b r2) (ex_if1 (fun hc => by exfalso; revert hc; decide) (fun _ => ?_)))))
    refine (ex_6_0 (ex_0 ?_))
    obtain ⟨J1, c1, es, hM1, hc1, hcp1, h291, h231, fs⟩ := c_settle (d := d + 1) (lst := 5) hS (by rw [f2 _ _ (by omega)]; exact hlow) hN2 (fun j a1 a2 => by rw [f2 _ _ (by omega)]; exact ⟨⟨by have := hE j a1 a2; omega, by have := hE j a1 a2; omega⟩, (bd_s (hE j a1 a2)).1⟩) (MR_P r2).2.1 (MR_P r2).1 (by have := (MR_P r2).2.2.1; omega)
    have rs := MR_set r2 fs h291 h231 hcp1
    refine (ix_46 (S' := []) rfl (sh_208 hS) es rfl rfl (ex_6_0 (ex_4_2 (ex_0 (ix_46 (S' := []) rfl (sh_208 hS) (c_push (p := p) hS h291 (by omega)) rfl rfl (ex_58 (ex_0 ?_)))))))
    exact ex_53 ⟨_, rfl, c1, MR_push (op' := 0) rs (by omega) (by decide) (fun h => absurd h (by decide)) hn4, MS_congr hM1 (fun k _ _ => ⟨(u2_q (by decide)).trans ((u2_q (by decide)).trans (u2_q (by decide))), (u2_q (by decide)).trans ((u2_q (by decide)).trans (u2_q (by decide)))⟩), (u2_q (by decide)).trans ((u2_q (by decide)).trans u2_e), MFr_trans (MFr_MK f2) (MFr_trans (MFr_SF fs (by omega)) (MFr_push (Nat.le_refl _)) (Nat.le_refl _) (Nat.le_refl _)) (Nat.le_refl _) (Nat.le_refl _)⟩
  obtain ⟨o, e, I1, rfl, h⟩ := am_doQ (as := [(.inr (.inr (some 208))), (.inl 1)]) (Nat.le_of_ble_eq_true rfl) rfl w
  exact ⟨I1, e, h⟩
theorem c_bs_c26_r {d : Nat} {G : am_G} {I : Nat → Nat → Int} {P : Nat → Nat → Option Nat} (hS : ST G P) {b : Nat → Int} {n : Nat} (hB : TB b n) {od : Bool} {s l c p op m a D : Nat} {f : Fn} (hR : MR I b n od s l c (p + m) op) (hN : PN od I m p a c D f) (htk : tk b n s = [62]) (hinn : inrF (I 221) (p + m) = 31) (hisc : ¬ isc (I 221) (p + m) = true) (hlow : p = 0 ∨ bd (I 221 (p - 1)) < 5) (hE : ∀ j, p ≤ j → j < p + m → 20 ≤ I 221 j ∧ I 221 j ≤ 24) : ∃ I1, am_call am_B am_M (d + 4) 218 [(.inr (.inr (some 208))), (.inl 1)] (G, I, P) = some ((some (.inl 1)), (G, I1, P)) ∧ (∃ c1, MR I1 b n od (nx b n s) l c1 (p + 1) op ∧ MS od (I1 219) (I1 220) a c1 D f ∧ I1 221 p = 26 ∧ MFr a p I I1) := by
  have hn4 := hB.1
  have hs := MR_s hR
  have hcp := MR_cp hR
  have hlt := tk_lt hs htk
  have hnx := nx_2 (b := b) s hlt
  have hac := PN_lt _ _ _ _ _ _ hN
  have w : am_ex (am_call am_B am_M (d + 3)) (am_B 218) (am_B 218 0) [some (.inr (.inr (some 208))), some (.inl 1), none, none] [] (G, I, P) (fun o => ∃ I1, o = ((some (.inl 1)), (G, I1, P)) ∧ (∃ c1, MR I1 b n od (nx b n s) l c1 (p + 1) op ∧ MS od (I1 219) (I1 220) a c1 D f ∧ I1 221 p = 26 ∧ MFr a p I I1)) := by
    refine (ex_6_0 (ex_0 (ix_46 (S' := [(.inl 0)]) rfl (sh_208 hS) (c_isS_f hS hB (MR_M hR) (MR_s hR) (v := 43) (by decide) (by rw [htk]; decide)) rfl rfl (ex_if0 (fun _ => ?_) (fun hc => by exfalso; revert hc; decide)))))
    refine (ex_6_0 (ex_0 (ix_46 (S' := [(.inl 0)]) rfl (sh_208 hS) (c_isS_f hS hB (MR_M hR) (MR_s hR) (v := 45) (by decide) (by rw [htk]; decide)) rfl rfl (ex_if0 (fun _ => ?_) (fun hc => by exfalso; revert hc; decide)))))
    refine (ex_6_0 (ex_0 (ix_46 (S' := [(.inl 0)]) rfl (sh_208 hS) (c_isS_f hS hB (MR_M hR) (MR_s hR) (v := 42) (by decide) (by rw [htk]; decide)) rfl rfl (ex_if0 (fun _ => ?_) (fun hc => by exfalso; revert hc; decide)))))
    refine (ex_6_0 (ex_0 (ix_46 (S' := [(.inl 0)]) rfl (sh_208 hS) (c_isS_f hS hB (MR_M hR) (MR_s hR) (v := 47) (by decide) (by rw [htk]; decide)) rfl rfl (ex_if0 (fun _ => ?_) (fun hc => by exfalso; revert hc; decide)))))
    refine (ex_6_0 (ex_0 (ix_46 (S' := [(.inl 0)]) rfl (sh_208 hS) (c_isS_f hS hB (MR_M hR) (MR_s hR) (v := 37) (by decide) (by rw [htk]; decide)) rfl rfl (ex_if0 (fun _ => ?_) (fun hc => by exfalso; revert hc; decide)))))
    refine (ex_0 (ex_58 (ex_7_2 rfl (ex_4_2 (ex_0 (ex_ic0 (fun _ => ?_) (fun hc => by exfalso; revert hc; decide)))))))
    refine (ex_6_0 (ix_46 (S' := [(.inl 31)]) rfl (sh_208 hS) (c_innV (v := 31) hS (MR_P hR).2.1 (by have := (MR_P hR).2.2.1; omega) hinn) rfl rfl (ex_7_3 rfl (ex_4_3 (ex_0 (ex_ic1 (fun _ => ?_) (fun hc => by exfalso; revert hc; decide)))))))
    refine (ex_4_3 (ex_0 (ex_ic1 (fun _ => ?_) (fun hc => by exfalso; revert hc; decide))))
    refine (ex_6_0 (ix_46 (S' := [(.inl 0)]) rfl (sh_208 hS) (c_iscV (v := 0) hS (MR_P hR).2.1 (by have := (MR_P hR).2.2.1; omega) (by rw [if_neg hisc])) rfl rfl (ex_if0 (fun _ => ?_) (fun hc => by exfalso; revert hc; decide))))
    refine (ex_6_0 (ex_0 (ix_46 (S' := [(.inl 0)]) rfl (sh_208 hS) (c_isS_f hS hB (MR_M hR) (MR_s hR) (v := 60) (by decide) (by rw [htk]; decide)) rfl rfl (ex_if0 (fun _ => ?_) (fun hc => by exfalso; revert hc; decide)))))
    refine (ex_6_0 (ex_0 (ix_46 (S' := [(.inl 1)]) rfl (sh_208 hS) (c_isS_t hS hB (MR_M hR) (MR_s hR) (v := 62) (by decide) htk) rfl rfl (ex_if0 (fun hc => by exfalso; revert hc; decide) (fun _ => ?_)))))
    refine (ex_0 (ex_28 (ex_7_2 rfl (ex_6_0 (ex_4_2 (ex_0 (ex_ic1 (fun _ => ?_) (fun hc => by exfalso; revert hc; decide))))))))
    refine (ex_0 (ex_28 ?_))
    obtain ⟨I2, e2, m2, f2⟩ := c_must_t (d := d) hS hB (MR_M hR) (MR_s hR) (MR_b hR)
    have r2 := MR_next hR hlt m2 f2
    have hN2 : PN od I2 m p a c D f := PN_congr _ _ _ _ _ _ hN (fun k _ _ => ⟨f2 _ _ (by omega), f2 _ _ (by omega)⟩) (fun j _ _ => ⟨f2 _ _ (by omega), f2 _ _ (by omega)⟩)
    refine (ix_46 (S' := []) rfl (sh_208 hS) e2 rfl rfl (ex_6_0 (ix_41i (v := 0) (sh_208 hS) (MR_b r2) (ex_if1 (fun hc => by exfalso; revert hc; decide) (fun _ => ?_)))))
    refine (ex_6_0 (ex_0 ?_))
    obtain ⟨J1, c1, es, hM1, hc1, hcp1, h291, h231, fs⟩ := c_settle (d := d + 1) (lst := 5) hS (by rw [f2 _ _ (by omega)]; exact hlow) hN2 (fun j a1 a2 => by rw [f2 _ _ (by omega)]; exact ⟨⟨by have := hE j a1 a2; omega, by have := hE j a1 a2; omega⟩, (bd_s (hE j a1 a2)).1⟩) (MR_P r2).2.1 (MR_P r2).1 (by have := (MR_P r2).2.2.1; omega)
    have rs := MR_set r2 fs h291 h231 hcp1
    refine (ix_46 (S' := []) rfl (sh_208 hS) es rfl rfl (ex_6_0 (ex_4_2 (ex_0 (ix_46 (S' := []) rfl (sh_208 hS) (c_push (p := p) hS h291 (by omega)) rfl rfl (ex_58 (ex_0 ?_)))))))
    exact ex_53 ⟨_, rfl, c1, MR_push (op' := 0) rs (by omega) (by decide) (fun h => absurd h (by decide)) hn4, MS_congr hM1 (fun k _ _ => ⟨(u2_q (by decide)).trans ((u2_q (by decide)).trans (u2_q (by decide))), (u2_q (by decide)).trans ((u2_q (by decide)).trans (u2_q (by decide)))⟩), (u2_q (by decide)).trans ((u2_q (by decide)).trans u2_e), MFr_trans (MFr_MK f2) (MFr_trans (MFr_SF fs (by omega)) (MFr_push (Nat.le_refl _)) (Nat.le_refl _) (Nat.le_refl _)) (Nat.le_refl _) (Nat.le_refl _)⟩
  obtain ⟨o, e, I1, rfl, h⟩ := am_doQ (as := [(.inr (.inr (some 208))), (.inl 1)]) (Nat.le_of_ble_eq_true rfl) rfl w
  exact ⟨I1, e, h⟩
theorem c_bs_c27_r {d : Nat} {G : am_G} {I : Nat → Nat → Int} {P : Nat → Nat → Option Nat} (hS : ST G P) {b : Nat → Int} {n : Nat} (hB : TB b n) {od : Bool} {s l c p op m a D : Nat} {f : Fn} (hR : MR I b n od s l c (p + m) op) (hN : PN od I m p a c D f) (htk : tk b n s = [61]) (hinn : inrF (I 221) (p + m) = 31) (hisc : ¬ isc (I 221) (p + m) = true) (hlow : p = 0 ∨ bd (I 221 (p - 1)) < 5) (hE : ∀ j, p ≤ j → j < p + m → 20 ≤ I 221 j ∧ I 221 j ≤ 24) : ∃ I1, am_call am_B am_M (d + 4) 218 [(.inr (.inr (some 208))), (.inl 1)] (G, I, P) = some ((some (.inl 1)), (G, I1, P)) ∧ (∃ c1, MR I1 b n od (nx b n s) l c1 (p + 1) op ∧ MS od (I1 219) (I1 220) a c1 D f ∧ I1 221 p = 27 ∧ MFr a p I I1) := by
  have hn4 := hB.1
  have hs := MR_s hR
  have hcp := MR_cp hR
  have hlt := tk_lt hs htk
  have hnx := nx_2 (b := b) s hlt
  have hac := PN_lt _ _ _ _ _ _ hN
  have w : am_ex (am_call am_B am_M (d + 3)) (am_B 218) (am_B 218 0) [some (.inr (.inr (some 208))), some (.inl 1), none, none] [] (G, I, P) (fun o => ∃ I1, o = ((some (.inl 1)), (G, I1, P)) ∧ (∃ c1, MR I1 b n od (nx b n s) l c1 (p + 1) op ∧ MS od (I1 219) (I1 220) a c1 D f ∧ I1 221 p = 27 ∧ MFr a p I I1)) := by
    refine (ex_6_0 (ex_0 (ix_46 (S' := [(.inl 0)]) rfl (sh_208 hS) (c_isS_f hS hB (MR_M hR) (MR_s hR) (v := 43) (by decide) (by rw [htk]; decide)) rfl rfl (ex_if0 (fun _ => ?_) (fun hc => by exfalso; revert hc; decide)))))
    refine (ex_6_0 (ex_0 (ix_46 (S' := [(.inl 0)]) rfl (sh_208 hS) (c_isS_f hS hB (MR_M hR) (MR_s hR) (v := 45) (by decide) (by rw [htk]; decide)) rfl rfl (ex_if0 (fun _ => ?_) (fun hc => by exfalso; revert hc; decide)))))
    refine (ex_6_0 (ex_0 (ix_46 (S' := [(.inl 0)]) rfl (sh_208 hS) (c_isS_f hS hB (MR_M hR) (MR_s hR) (v := 42) (by decide) (by rw [htk]; decide)) rfl rfl (ex_if0 (fun _ => ?_) (fun hc => by exfalso; revert hc; decide)))))
    refine (ex_6_0 (ex_0 (ix_46 (S' := [(.inl 0)]) rfl (sh_208 hS) (c_isS_f hS hB (MR_M hR) (MR_s hR) (v := 47) (by decide) (by rw [htk]; decide)) rfl rfl (ex_if0 (fun _ => ?_) (fun hc => by exfalso; revert hc; decide)))))
    refine (ex_6_0 (ex_0 (ix_46 (S' := [(.inl 0)]) rfl (sh_208 hS) (c_isS_f hS hB (MR_M hR) (MR_s hR) (v := 37) (by decide) (by rw [htk]; decide)) rfl rfl (ex_if0 (fun _ => ?_) (fun hc => by exfalso; revert hc; decide)))))
    refine (ex_0 (ex_58 (ex_7_2 rfl (ex_4_2 (ex_0 (ex_ic0 (fun _ => ?_) (fun hc => by exfalso; revert hc; decide)))))))
    refine (ex_6_0 (ix_46 (S' := [(.inl 31)]) rfl (sh_208 hS) (c_innV (v := 31) hS (MR_P hR).2.1 (by have := (MR_P hR).2.2.1; omega) hinn) rfl rfl (ex_7_3 rfl (ex_4_3 (ex_0 (ex_ic1 (fun _ => ?_) (fun hc => by exfalso; revert hc; decide)))))))
    refine (ex_4_3 (ex_0 (ex_ic1 (fun _ => ?_) (fun hc => by exfalso; revert hc; decide))))
    refine (ex_6_0 (ix_46 (S' := [(.inl 0)]) rfl (sh_208 hS) (c_iscV (v := 0) hS (MR_P hR).2.1 (by have := (MR_P hR).2.2.1; omega) (by rw [if_neg hisc])) rfl rfl (ex_if0 (fun _ => ?_) (fun hc => by exfalso; revert hc; decide))))
    refine (ex_6_0 (ex_0 (ix_46 (S' := [(.inl 0)]) rfl (sh_208 hS) (c_isS_f hS hB (MR_M hR) (MR_s hR) (v := 60) (by decide) (by rw [htk]; decide)) rfl rfl (ex_if0 (fun _ => ?_) (fun hc => by exfalso; revert hc; decide)))))
    refine (ex_6_0 (ex_0 (ix_46 (S' := [(.inl 0)]) rfl (sh_208 hS) (c_isS_f hS hB (MR_M hR) (MR_s hR) (v := 62) (by decide) (by rw [htk]; decide)) rfl rfl (ex_if0 (fun _ => ?_) (fun hc => by exfalso; revert hc; decide)))))
    refine (ex_0 (ex_58 (ex_7_2 rfl (ex_6_0 (ex_4_2 (ex_0 (ex_ic1 (fun hc => by exfalso; revert hc; decide) (fun _ => ?_))))))))
    refine (ex_6_0 (ex_0 (ix_46 (S' := [(.inl 1), (.inr (.inr (some 208)))]) rfl (sh_208 hS) (c_isS_t hS hB (MR_M hR) (MR_s hR) (v := 61) (by decide) htk) rfl rfl (ex_if0 (fun hc => by exfalso; revert hc; decide) (fun _ => ?_)))))
    refine (ex_0 (ex_28 ?_))
    obtain ⟨I2, e2, m2, f2⟩ := c_must_t (d := d) hS hB (MR_M hR) (MR_s hR) (MR_b hR)
    have r2 := MR_next hR hlt m2 f2
    have hN2 : PN od I2 m p a c D f := PN_congr _ _ _ _ _ _ hN (fun k _ _ => ⟨f2 _ _ (by omega), f2 _ _ (by omega)⟩) (fun j _ _ => ⟨f2 _ _ (by omega), f2 _ _ (by omega)⟩)
    refine (ix_46 (S' := []) rfl (sh_208 hS) e2 rfl rfl (ex_6_0 (ix_41i (v := 0) (sh_208 hS) (MR_b r2) (ex_if1 (fun hc => by exfalso; revert hc; decide) (fun _ => ?_)))))
    refine (ex_6_0 (ex_0 ?_))
    obtain ⟨J1, c1, es, hM1, hc1, hcp1, h291, h231, fs⟩ := c_settle (d := d + 1) (lst := 5) hS (by rw [f2 _ _ (by omega)]; exact hlow) hN2 (fun j a1 a2 => by rw [f2 _ _ (by omega)]; exact ⟨⟨by have := hE j a1 a2; omega, by have := hE j a1 a2; omega⟩, (bd_s (hE j a1 a2)).1⟩) (MR_P r2).2.1 (MR_P r2).1 (by have := (MR_P r2).2.2.1; omega)
    have rs := MR_set r2 fs h291 h231 hcp1
    refine (ix_46 (S' := []) rfl (sh_208 hS) es rfl rfl (ex_6_0 (ex_4_2 (ex_0 (ix_46 (S' := []) rfl (sh_208 hS) (c_push (p := p) hS h291 (by omega)) rfl rfl (ex_58 (ex_0 ?_)))))))
    exact ex_53 ⟨_, rfl, c1, MR_push (op' := 0) rs (by omega) (by decide) (fun h => absurd h (by decide)) hn4, MS_congr hM1 (fun k _ _ => ⟨(u2_q (by decide)).trans ((u2_q (by decide)).trans (u2_q (by decide))), (u2_q (by decide)).trans ((u2_q (by decide)).trans (u2_q (by decide)))⟩), (u2_q (by decide)).trans ((u2_q (by decide)).trans u2_e), MFr_trans (MFr_MK f2) (MFr_trans (MFr_SF fs (by omega)) (MFr_push (Nat.le_refl _)) (Nat.le_refl _) (Nat.le_refl _)) (Nat.le_refl _) (Nat.le_refl _)⟩
  obtain ⟨o, e, I1, rfl, h⟩ := am_doQ (as := [(.inr (.inr (some 208))), (.inl 1)]) (Nat.le_of_ble_eq_true rfl) rfl w
  exact ⟨I1, e, h⟩
theorem c_bt_and {d : Nat} {G : am_G} {I : Nat → Nat → Int} {P : Nat → Nat → Option Nat} (hS : ST G P) {b : Nat → Int} {n : Nat} (hB : TB b n) {od : Bool} {s l c p op m a D : Nat} {f : Fn} (hR : MR I b n od s l c (p + m) op) (hN : PN od I m p a c D f) (htk : tk b n s = [97, 110, 100]) (hlow : p = 0 ∨ bd (I 221 (p - 1)) < 2) (hE : ∀ j, p ≤ j → j < p + m → (20 ≤ I 221 j ∧ I 221 j ≤ 30) ∧ 2 ≤ bd (I 221 j)) : ∃ I1, am_call am_B am_M (d + 4) 219 [(.inr (.inr (some 208)))] (G, I, P) = some ((some (.inl 0)), (G, I1, P)) ∧ (∃ c1 : Nat, MR I1 b n od (nx b n s) l (c1 + 1) (p + 1) op ∧ MS od (I1 219) (I1 220) a c1 D f ∧ I1 221 p = 29 ∧ I1 222 p = (c1 : Int) ∧ I1 219 c1 = 29 ∧ MFr a p I I1) := by
  have hn4 := hB.1
  have hs := MR_s hR
  have hcp := MR_cp hR
  have hlt := tk_lt hs htk
  have hac := PN_lt _ _ _ _ _ _ hN
  have hnx2 : s + 2 ≤ nx b n s := by
    have h1 := (tk_eq.mp htk).1
    have h2 := sk_b (b := b) (n := n) (p := en b n s) (en_b hs).2.1
    simp only [List.length_cons, List.length_nil] at h1
    unfold nx
    omega
  have w : am_ex (am_call am_B am_M (d + 3)) (am_B 219) (am_B 219 0) [some (.inr (.inr (some 208))), none] [] (G, I, P) (fun o => ∃ I1, o = ((some (.inl 0)), (G, I1, P)) ∧ (∃ c1 : Nat, MR I1 b n od (nx b n s) l (c1 + 1) (p + 1) op ∧ MS od (I1 219) (I1 220) a c1 D f ∧ I1 221 p = 29 ∧ I1 222 p = (c1 : Int) ∧ I1 219 c1 = 29 ∧ MFr a p I I1)) := by
    refine (ex_6_0 (ex_1 (ix_46 (S' := [(.inl 1)]) rfl (sh_208 hS) (c_isW_t hS hB (MR_M hR) (MR_s hR) (v := 1476) [97, 110, 100] (lets_of rfl) (by decide) (by decide) htk) rfl rfl (ex_7_1 rfl (ex_4_1 (ex_if1 (fun _ => ?_) (fun hc => by exfalso; revert hc; decide)))))))
    refine (ex_6_0 (ex_4_1 (ex_if0 (fun hc => by exfalso; revert hc; decide) (fun _ => ?_))))
    refine (ex_0 (ex_28 ?_))
    obtain ⟨J1, c1, es, hM1, hc1, hcp1, h291, h231, fs⟩ := c_settle (d := d + 1) (lst := 2) hS hlow hN hE (MR_P hR).2.1 (MR_P hR).1 (by have := (MR_P hR).2.2.1; omega)
    have rs := MR_set hR fs h291 h231 hcp1
    refine (ix_46 (S' := []) rfl (sh_208 hS) es rfl rfl (ex_6_0 (ex_4_1 (ex_if0 (fun hc => by exfalso; revert hc; decide) (fun _ => ?_)))))
    refine (ex_0 (ex_28 (ex_6_0 (ix_41i (v := (c1 : Int)) (sh_208 hS) h231 (ix_46 (S' := []) rfl (sh_208 hS) (c_push (p := p) hS h291 (by omega)) rfl rfl (ex_6_0 (ex_4_1 (ex_if0 (fun hc => by exfalso; revert hc; decide) (fun _ => ?_)))))))))
    refine (ex_0 (ex_28 (ex_0 (ix_46 (S' := []) rfl (sh_208 hS) (c_emit (c := c1) hS ((u2_k (by decide)).trans ((u2_q (by decide)).trans ((u2_q (by decide)).trans h231))) (by omega)) rfl rfl (ex_6_0 ?_)))))
    obtain ⟨I1, e1, m1, f1⟩ := c_next (d := d + 1) hS hB (I := (am_u2 (am_u2 (am_u2 (am_u2 (am_u2 (am_u2 J1 221 p 29) 222 p (c1 : Int)) 208 29 ((p : Int) + 1)) 219 c1 29) 220 c1 0) 208 23 ((c1 : Int) + 1))) (s := s) (MK_fr (MR_M rs) (fun q k hq => (u2_o (by omega)).trans ((u2_o (by omega)).trans ((u2_o (by omega)).trans ((u2_o (by omega)).trans ((u2_o (by omega)).trans (u2_o (by omega)))))))) hs
    refine (ix_46 (S' := []) rfl (sh_208 hS) e1 rfl rfl (ex_0 ?_))
    exact ex_53 ⟨_, rfl, c1, MR_pen rs hlt hn4 hnx2 (by decide) m1 f1, MS_congr hM1 (fun k _ hk => ⟨(f1 _ _ (by omega)).trans ((u2_q (by decide)).trans ((u2_q (by decide)).trans ((u2_k (by omega)).trans ((u2_q (by decide)).trans ((u2_q (by decide)).trans (u2_q (by decide))))))), (f1 _ _ (by omega)).trans ((u2_q (by decide)).trans ((u2_k (by omega)).trans ((u2_q (by decide)).trans ((u2_q (by decide)).trans ((u2_q (by decide)).trans (u2_q (by decide)))))))⟩), (f1 _ _ (by omega)).trans ((u2_q (by decide)).trans ((u2_q (by decide)).trans ((u2_q (by decide)).trans ((u2_q (by decide)).trans ((u2_q (by decide)).trans u2_e))))), (f1 _ _ (by omega)).trans ((u2_q (by decide)).trans ((u2_q (by decide)).trans ((u2_q (by decide)).trans ((u2_q (by decide)).trans u2_e)))), (f1 _ _ (by omega)).trans ((u2_q (by decide)).trans ((u2_q (by decide)).trans u2_e)), MFr_trans (MFr_SF fs (by omega)) (MFr_trans (MFr_push (Nat.le_refl _)) (MFr_trans (MFr_emit (by omega)) (MFr_MK f1) (Nat.le_refl _) (Nat.le_refl _)) (Nat.le_refl _) (Nat.le_refl _)) (Nat.le_refl _) (Nat.le_refl _)⟩
  obtain ⟨o, e, I1, rfl, h⟩ := am_doQ (as := [(.inr (.inr (some 208)))]) (Nat.le_of_ble_eq_true rfl) rfl w
  exact ⟨I1, e, h⟩
theorem c_bt_or {d : Nat} {G : am_G} {I : Nat → Nat → Int} {P : Nat → Nat → Option Nat} (hS : ST G P) {b : Nat → Int} {n : Nat} (hB : TB b n) {od : Bool} {s l c p op m a D : Nat} {f : Fn} (hR : MR I b n od s l c (p + m) op) (hN : PN od I m p a c D f) (htk : tk b n s = [111, 114]) (hlow : p = 0 ∨ bd (I 221 (p - 1)) < 1) (hE : ∀ j, p ≤ j → j < p + m → (20 ≤ I 221 j ∧ I 221 j ≤ 30) ∧ 1 ≤ bd (I 221 j)) : ∃ I1, am_call am_B am_M (d + 4) 219 [(.inr (.inr (some 208)))] (G, I, P) = some ((some (.inl 0)), (G, I1, P)) ∧ (∃ c1 : Nat, MR I1 b n od (nx b n s) l (c1 + 1) (p + 1) op ∧ MS od (I1 219) (I1 220) a c1 D f ∧ I1 221 p = 30 ∧ I1 222 p = (c1 : Int) ∧ I1 219 c1 = 30 ∧ MFr a p I I1) := by
  have hn4 := hB.1
  have hs := MR_s hR
  have hcp := MR_cp hR
  have hlt := tk_lt hs htk
  have hac := PN_lt _ _ _ _ _ _ hN
  have hnx2 : s + 2 ≤ nx b n s := by
    have h1 := (tk_eq.mp htk).1
    have h2 := sk_b (b := b) (n := n) (p := en b n s) (en_b hs).2.1
    simp only [List.length_cons, List.length_nil] at h1
    unfold nx
    omega
  have w : am_ex (am_call am_B am_M (d + 3)) (am_B 219) (am_B 219 0) [some (.inr (.inr (some 208))), none] [] (G, I, P) (fun o => ∃ I1, o = ((some (.inl 0)), (G, I1, P)) ∧ (∃ c1 : Nat, MR I1 b n od (nx b n s) l (c1 + 1) (p + 1) op ∧ MS od (I1 219) (I1 220) a c1 D f ∧ I1 221 p = 30 ∧ I1 222 p = (c1 : Int) ∧ I1 219 c1 = 30 ∧ MFr a p I I1)) := by
    refine (ex_6_0 (ex_1 (ix_46 (S' := [(.inl 0)]) rfl (sh_208 hS) (c_isW_f hS hB (MR_M hR) (MR_s hR) (v := 1476) [97, 110, 100] (lets_of rfl) (by decide) (by decide) (by rw [htk]; decide)) rfl rfl (ex_7_1 rfl (ex_4_1 (ex_if1 (fun hc => by exfalso; revert hc; decide) (fun _ => ?_)))))))
    refine (ex_6_0 (ex_1 (ix_46 (S' := [(.inl 1)]) rfl (sh_208 hS) (c_isW_t hS hB (MR_M hR) (MR_s hR) (v := 498) [111, 114] (lets_of rfl) (by decide) (by decide) htk) rfl rfl (ex_if0 (fun hc => by exfalso; revert hc; decide) (fun _ => ?_)))))
    refine (ex_6_0 (ex_4_1 (ex_if0 (fun _ => ?_) (fun hc => by exfalso; revert hc; decide))))
    refine (ex_0 (ex_58 ?_))
    obtain ⟨J1, c1, es, hM1, hc1, hcp1, h291, h231, fs⟩ := c_settle (d := d + 1) (lst := 1) hS hlow hN hE (MR_P hR).2.1 (MR_P hR).1 (by have := (MR_P hR).2.2.1; omega)
    have rs := MR_set hR fs h291 h231 hcp1
    refine (ix_46 (S' := []) rfl (sh_208 hS) es rfl rfl (ex_6_0 (ex_4_1 (ex_if0 (fun _ => ?_) (fun hc => by exfalso; revert hc; decide)))))
    refine (ex_0 (ex_58 (ex_6_0 (ix_41i (v := (c1 : Int)) (sh_208 hS) h231 (ix_46 (S' := []) rfl (sh_208 hS) (c_push (p := p) hS h291 (by omega)) rfl rfl (ex_6_0 (ex_4_1 (ex_if0 (fun _ => ?_) (fun hc => by exfalso; revert hc; decide)))))))))
    refine (ex_0 (ex_58 (ex_0 (ix_46 (S' := []) rfl (sh_208 hS) (c_emit (c := c1) hS ((u2_k (by decide)).trans ((u2_q (by decide)).trans ((u2_q (by decide)).trans h231))) (by omega)) rfl rfl (ex_6_0 ?_)))))
    obtain ⟨I1, e1, m1, f1⟩ := c_next (d := d + 1) hS hB (I := (am_u2 (am_u2 (am_u2 (am_u2 (am_u2 (am_u2 J1 221 p 30) 222 p (c1 : Int)) 208 29 ((p : Int) + 1)) 219 c1 30) 220 c1 0) 208 23 ((c1 : Int) + 1))) (s := s) (MK_fr (MR_M rs) (fun q k hq => (u2_o (by omega)).trans ((u2_o (by omega)).trans ((u2_o (by omega)).trans ((u2_o (by omega)).trans ((u2_o (by omega)).trans (u2_o (by omega)))))))) hs
    refine (ix_46 (S' := []) rfl (sh_208 hS) e1 rfl rfl (ex_0 ?_))
    exact ex_53 ⟨_, rfl, c1, MR_pen rs hlt hn4 hnx2 (by decide) m1 f1, MS_congr hM1 (fun k _ hk => ⟨(f1 _ _ (by omega)).trans ((u2_q (by decide)).trans ((u2_q (by decide)).trans ((u2_k (by omega)).trans ((u2_q (by decide)).trans ((u2_q (by decide)).trans (u2_q (by decide))))))), (f1 _ _ (by omega)).trans ((u2_q (by decide)).trans ((u2_k (by omega)).trans ((u2_q (by decide)).trans ((u2_q (by decide)).trans ((u2_q (by decide)).trans (u2_q (by decide)))))))⟩), (f1 _ _ (by omega)).trans ((u2_q (by decide)).trans ((u2_q (by decide)).trans ((u2_q (by decide)).trans ((u2_q (by decide)).trans ((u2_q (by decide)).trans u2_e))))), (f1 _ _ (by omega)).trans ((u2_q (by decide)).trans ((u2_q (by decide)).trans ((u2_q (by decide)).trans ((u2_q (by decide)).trans u2_e)))), (f1 _ _ (by omega)).trans ((u2_q (by decide)).trans ((u2_q (by decide)).trans u2_e)), MFr_trans (MFr_SF fs (by omega)) (MFr_trans (MFr_push (Nat.le_refl _)) (MFr_trans (MFr_emit (by omega)) (MFr_MK f1) (Nat.le_refl _) (Nat.le_refl _)) (Nat.le_refl _) (Nat.le_refl _)) (Nat.le_refl _) (Nat.le_refl _)⟩
  obtain ⟨o, e, I1, rfl, h⟩ := am_doQ (as := [(.inr (.inr (some 208)))]) (Nat.le_of_ble_eq_true rfl) rfl w
  exact ⟨I1, e, h⟩
theorem c_bt_over {d : Nat} {G : am_G} {I : Nat → Nat → Int} {P : Nat → Nat → Option Nat} (hS : ST G P) {b : Nat → Int} {n : Nat} (hB : TB b n) {od : Bool} {s l c p op : Nat} (hR : MR I b n od s l c p op) (hna : ¬ tk b n s = [97, 110, 100]) (hnor : ¬ tk b n s = [111, 114]) (hinn : inrF (I 221) p = -1) : am_call am_B am_M (d + 4) 219 [(.inr (.inr (some 208)))] (G, I, P) = some (some (.inl 4), (G, I, P)) := by
  refine am_doL (L := [some (.inr (.inr (some 208))), none]) (Nat.le_of_ble_eq_true rfl) rfl ?_
  refine (ex_6_0 (ex_1 (ix_46 (S' := [(.inl 0)]) rfl (sh_208 hS) (c_isW_f hS hB (MR_M hR) (MR_s hR) (v := 1476) [97, 110, 100] (lets_of rfl) (by decide) (by decide) hna) rfl rfl (ex_7_1 rfl (ex_4_1 (ex_if1 (fun hc => by exfalso; revert hc; decide) (fun _ => ?_)))))))
  refine (ex_6_0 (ex_1 (ix_46 (S' := [(.inl 0)]) rfl (sh_208 hS) (c_isW_f hS hB (MR_M hR) (MR_s hR) (v := 498) [111, 114] (lets_of rfl) (by decide) (by decide) hnor) rfl rfl (ex_if0 (fun _ => ?_) (fun hc => by exfalso; revert hc; decide)))))
  refine (ex_6_0 (ix_46 (S' := [(.inl (-1))]) rfl (sh_208 hS) (c_innV (v := (-1)) hS (MR_P hR).2.1 (by have := (MR_P hR).2.2.1; omega) hinn) rfl rfl (ex_0 (ex_ic1 (fun hc => by exfalso; revert hc; decide) (fun _ => ?_)))))
  refine (ex_0 ?_)
  exact ex_53 rfl
theorem c_rd_t {d : Nat} {G : am_G} {I : Nat → Nat → Int} {P : Nat → Nat → Option Nat} (hS : ST G P) {b : Nat → Int} {n : Nat} (hB : TB b n) {od : Bool} {s l c p op m a D : Nat} {f : Fn} (hR : MR I b n od s l c (p + 1 + m) op) (hN : PN od I m (p + 1) a c D f) (hna : ¬ tk b n s = [97, 110, 100]) (hnor : ¬ tk b n s = [111, 114]) (hbr : I 221 p = 31) (hE : ∀ j, p + 1 ≤ j → j < p + 1 + m → 20 ≤ I 221 j ∧ I 221 j ≤ 30) (hop : 0 < op) (hcl : tk b n s = [41]) : ∃ I1, am_call am_B am_M (d + 4) 219 [(.inr (.inr (some 208)))] (G, I, P) = some ((some (.inl 2)), (G, I1, P)) ∧ (∃ c1, MR I1 b n od (nx b n s) l c1 p (op - 1) ∧ MS od (I1 219) (I1 220) a c1 D f ∧ c ≤ c1 ∧ MFr a p I I1) := by
  have hn4 := hB.1
  have hs := MR_s hR
  have hcp := MR_cp hR
  have hlt := tk_lt hs hcl
  have hac := PN_lt _ _ _ _ _ _ hN
  have hinn : inrF (I 221) (p + 1 + m) = 31 := by rw [inrF_ext m (fun j a1 a2 => by have := hE j a1 a2; omega), inrF_succ, hbr]; rfl
  have h8 := MR_8 hR
  have w : am_ex (am_call am_B am_M (d + 3)) (am_B 219) (am_B 219 0) [some (.inr (.inr (some 208))), none] [] (G, I, P) (fun o => ∃ I1, o = ((some (.inl 2)), (G, I1, P)) ∧ (∃ c1, MR I1 b n od (nx b n s) l c1 p (op - 1) ∧ MS od (I1 219) (I1 220) a c1 D f ∧ c ≤ c1 ∧ MFr a p I I1)) := by
    refine (ex_6_0 (ex_1 (ix_46 (S' := [(.inl 0)]) rfl (sh_208 hS) (c_isW_f hS hB (MR_M hR) (MR_s hR) (v := 1476) [97, 110, 100] (lets_of rfl) (by decide) (by decide) hna) rfl rfl (ex_7_1 rfl (ex_4_1 (ex_if1 (fun hc => by exfalso; revert hc; decide) (fun _ => ?_)))))))
    refine (ex_6_0 (ex_1 (ix_46 (S' := [(.inl 0)]) rfl (sh_208 hS) (c_isW_f hS hB (MR_M hR) (MR_s hR) (v := 498) [111, 114] (lets_of rfl) (by decide) (by decide) hnor) rfl rfl (ex_if0 (fun _ => ?_) (fun hc => by exfalso; revert hc; decide)))))
    refine (ex_6_0 (ix_46 (S' := [(.inl 31)]) rfl (sh_208 hS) (c_innV (v := 31) hS (MR_P hR).2.1 (by have := (MR_P hR).2.2.1; omega) hinn) rfl rfl (ex_0 (ex_ic1 (fun _ => ?_) (fun hc => by exfalso; revert hc; decide)))))
    refine (ex_6_0 (ex_6_0 (ex_0 (ix_46 (S' := [(.inl 1), (.inr (.inr (some 208)))]) rfl (sh_208 hS) (c_isS_t hS hB (MR_M hR) (MR_s hR) (v := 41) (by decide) hcl) rfl rfl ?_))))
    obtain ⟨I2, e2, m2, f2⟩ := c_must_t (d := d) hS hB (MR_M hR) (MR_s hR) (MR_b hR)
    have r2 := MR_next hR hlt m2 f2
    have hN2 : PN od I2 m (p + 1) a c D f := PN_congr _ _ _ _ _ _ hN (fun k _ _ => ⟨f2 _ _ (by omega), f2 _ _ (by omega)⟩) (fun j _ _ => ⟨f2 _ _ (by omega), f2 _ _ (by omega)⟩)
    refine (ix_46 (S' := []) rfl (sh_208 hS) e2 rfl rfl (ex_6_0 (ix_41i (v := 0) (sh_208 hS) (MR_b r2) (ex_if1 (fun hc => by exfalso; revert hc; decide) (fun _ => ?_)))))
    refine (ex_6_0 (ex_0 ?_))
    obtain ⟨J1, c1, es, hM1, hc1, hcp1, h291, h231, fs⟩ := c_settle (d := d + 1) (lst := 1) hS (Or.inr (by rw [show p + 1 - 1 = p by omega, f2 _ _ (by omega), hbr]; decide)) hN2 (fun j a1 a2 => by rw [f2 _ _ (by omega)]; exact ⟨hE j a1 a2, (bd_t (hE j a1 a2)).1⟩) (MR_P r2).2.1 (MR_P r2).1 (by have := (MR_P r2).2.2.1; omega)
    have rs := MR_set r2 fs h291 h231 hcp1
    refine (ix_46 (S' := []) rfl (sh_208 hS) es rfl rfl (ex_6_0 (ex_22 rfl (ix_41i (v := ((p + 1 : Nat) : Int)) (sh_208 hS) (MR_P rs).2.1 (ex_0 (ex_11e (v := (p : Int)) ((am_sub ⟨by omega, by omega⟩).trans (by omega)) (ix_42i (sh_208 hS) (ex_6_0 (ex_22 rfl (ix_41i (v := (op : Int)) (sh_208 hS) ((u2_k (by decide)).trans (MR_30 rs)) (ex_0 (ex_11e (v := ((op - 1 : Nat) : Int)) ((am_sub ⟨by omega, by omega⟩).trans (by omega)) (ix_42i (sh_208 hS) (ex_58 (ex_0 ?_)))))))))))))))
    exact ex_53 ⟨_, rfl, c1, MR_30w (op' := op - 1) (MR_pop rs) (by have := MR_8 rs; omega), MS_congr hM1 (fun k _ _ => ⟨(u2_q (by decide)).trans (u2_q (by decide)), (u2_q (by decide)).trans (u2_q (by decide))⟩), hc1, MFr_trans (MFr_MK f2) (MFr_trans (MFr_SF fs (by omega)) (MFr_trans (MFr_w (by decide)) (MFr_w (by decide)) (Nat.le_refl _) (Nat.le_refl _)) (Nat.le_refl _) (Nat.le_refl _)) (Nat.le_refl _) (Nat.le_refl _)⟩
  obtain ⟨o, e, I1, rfl, h⟩ := am_doQ (as := [(.inr (.inr (some 208)))]) (Nat.le_of_ble_eq_true rfl) rfl w
  exact ⟨I1, e, h⟩
theorem c_rd_f {d : Nat} {G : am_G} {I : Nat → Nat → Int} {P : Nat → Nat → Option Nat} (hS : ST G P) {b : Nat → Int} {n : Nat} (hB : TB b n) {od : Bool} {s l c p op m a D : Nat} {f : Fn} (hR : MR I b n od s l c (p + 1 + m) op) (hN : PN od I m (p + 1) a c D f) (hna : ¬ tk b n s = [97, 110, 100]) (hnor : ¬ tk b n s = [111, 114]) (hbr : I 221 p = 31) (hE : ∀ j, p + 1 ≤ j → j < p + 1 + m → 20 ≤ I 221 j ∧ I 221 j ≤ 30) (hcl : ¬ tk b n s = [41]) : am_call am_B am_M (d + 4) 219 [(.inr (.inr (some 208)))] (G, I, P) = some (some (.inl 2), (G, am_u2 (am_u2 I 208 19 1) 208 18 (s : Int), P)) := by
  have hn4 := hB.1
  have hs := MR_s hR
  have hcp := MR_cp hR
  have hinn : inrF (I 221) (p + 1 + m) = 31 := by rw [inrF_ext m (fun j a1 a2 => by have := hE j a1 a2; omega), inrF_succ, hbr]; rfl
  refine am_doL (L := [some (.inr (.inr (some 208))), none]) (Nat.le_of_ble_eq_true rfl) rfl ?_
  refine (ex_6_0 (ex_1 (ix_46 (S' := [(.inl 0)]) rfl (sh_208 hS) (c_isW_f hS hB (MR_M hR) (MR_s hR) (v := 1476) [97, 110, 100] (lets_of rfl) (by decide) (by decide) hna) rfl rfl (ex_7_1 rfl (ex_4_1 (ex_if1 (fun hc => by exfalso; revert hc; decide) (fun _ => ?_)))))))
  refine (ex_6_0 (ex_1 (ix_46 (S' := [(.inl 0)]) rfl (sh_208 hS) (c_isW_f hS hB (MR_M hR) (MR_s hR) (v := 498) [111, 114] (lets_of rfl) (by decide) (by decide) hnor) rfl rfl (ex_if0 (fun _ => ?_) (fun hc => by exfalso; revert hc; decide)))))
  refine (ex_6_0 (ix_46 (S' := [(.inl 31)]) rfl (sh_208 hS) (c_innV (v := 31) hS (MR_P hR).2.1 (by have := (MR_P hR).2.2.1; omega) hinn) rfl rfl (ex_0 (ex_ic1 (fun _ => ?_) (fun hc => by exfalso; revert hc; decide)))))
  refine (ex_6_0 (ex_6_0 (ex_0 (ix_46 (S' := [(.inl 0), (.inr (.inr (some 208)))]) rfl (sh_208 hS) (c_isS_f hS hB (MR_M hR) (MR_s hR) (v := 41) (by decide) hcl) rfl rfl (ix_46 (S' := []) rfl (sh_208 hS) (c_must_f hS (MR_M hR).2.1 (MR_b hR)) rfl rfl (ex_6_0 (ix_41i (v := 1) (sh_208 hS) ((u2_k (by decide)).trans u2_e) (ex_if1 (fun _ => ?_) (fun hc => by exfalso; revert hc; decide)))))))))
  refine (ex_0 ?_)
  exact ex_53 rfl
