/-! ===== a text is copied ===== -/
def tln (m z i : Nat) : Nat := if i < 5 then m else z
def tfl (i : Nat) : Nat := if i < 5 then i else 6
def tsl (m z j : Nat) : Nat := if j ≤ 5 then j * m else 5 * m + z
/-- a text of which j rows are made -/
def NT (G0 : am_G) (I0 : Nat → Nat → Int) (P0 : Nat → Nat → Option Nat) (t m z j : Nat) (G : am_G) (I : Nat → Nat → Int) (P : Nat → Nat → Option Nat) : Prop := G.1 = G0.1 + 1 + j ∧ G.2.1 = G0.2.1 + 8 + tsl m z j ∧ (∀ q, q < t → G.2.2 q = G0.2.2 q) ∧ G.2.2 t = .inr 9 ∧ (∀ i, i < j → G.2.2 (t + 1 + i) = .inl (0, tln m z i)) ∧ (∀ i, i < j → P t (tfl i) = some (t + 1 + i)) ∧ (∀ q k, q < t → I q k = I0 q k) ∧ (∀ q k, q < t → P q k = P0 q k)
theorem u1_at {α : Type} {f : Nat → α} {i j : Nat} {v : α} (h : ¬ j = i) : am_u1 f i v j = f j := if_neg h
theorem NT_step {G0 : am_G} {I0 : Nat → Nat → Int} {P0 : Nat → Nat → Option Nat} {t m z j : Nat} {G : am_G} {I : Nat → Nat → Int} {P : Nat → Nat → Option Nat} (ht : t = 64 + G0.1) (hj : j < 6) (h : NT G0 I0 P0 t m z j G I P) : NT G0 I0 P0 t m z (j + 1) (G.1 + 1, G.2.1 + tln m z j, am_u1 G.2.2 (64 + G.1) (.inl (0, tln m z j))) (am_u1 I (64 + G.1) (fun _ => 0)) (am_u2 (am_u1 P (64 + G.1) (fun _ => none)) t (tfl j) (some (64 + G.1))) := by
  obtain ⟨h1, h2, h3, h4, h5, h6, h7, h8⟩ := h
  have hq : 64 + G.1 = t + 1 + j := by omega
  refine ⟨by show G.1 + 1 = _; omega, ?_, fun q hq' => ?_, ?_, fun i hi => ?_, fun i hi => ?_, fun q k hq' => ?_, fun q k hq' => ?_⟩
  · show G.2.1 + tln m z j = _
    rw [h2]
    unfold tsl tln
    by_cases h5 : j < 5
    · rw [if_pos h5, if_pos (show j ≤ 5 by omega), if_pos (show j + 1 ≤ 5 by omega), Nat.add_mul, Nat.one_mul]; omega
    · have : j = 5 := by omega
      subst this
      rw [if_pos (by omega), if_neg (by omega), if_neg (by omega)]; omega
  · show am_u1 G.2.2 (64 + G.1) _ q = _
    rw [u1_at (by omega)]; exact h3 q hq'
  · show am_u1 G.2.2 (64 + G.1) _ t = _
    rw [u1_at (by omega)]; exact h4
  · show am_u1 G.2.2 (64 + G.1) _ (t + 1 + i) = _
    by_cases e : i = j
    · rw [am_u1, if_pos (by omega), e]
    · rw [u1_at (by omega)]; exact h5 i (by omega)
  · by_cases e : i = j
    · rw [e, u2_e, hq]
    · rw [u2_k (by unfold tfl; split <;> split <;> omega), u1_at (by omega)]; exact h6 i (by omega)
  · rw [u1_at (by omega)]; exact h7 q k hq'
  · rw [u2_q (by omega), u1_at (by omega)]; exact h8 q k hq'
theorem NT_put {K : Nat → List am_V → am_H → Option am_O} {B : Nat → List am_I} {is : List am_I} {L : am_L} {S : List am_V} {Q : am_O → Prop} {G0 : am_G} {I0 : Nat → Nat → Int} {P0 : Nat → Nat → Option Nat} {t m z : Nat} (j : Nat) {G : am_G} {I : Nat → Nat → Int} {P : Nat → Nat → Option Nat} {pc pc' k idx : Nat} {c c' : Int} (ht : t = 64 + G0.1) (hj : j < 6) (hm : m ≤ 12) (hz : z ≤ 436) (h : NT G0 I0 P0 t m z j G I P) {f ln : Nat} (hf : tfl j = f) (hl : tln m z j = ln) (hk : ∀ G1 I1 P1, NT G0 I0 P0 t m z (j + 1) G1 I1 P1 → am_ex K B is L S (G1, I1, P1) Q) : am_ex K B ((39, pc, c, [0, k]) :: (42, pc', c', [9, f, 2, idx]) :: is) L (.inl (ln : Int) :: .inr (.inr (some t)) :: S) (G, I, P) Q := by
  subst hf
  subst hl
  have hb : tln m z j ≤ 436 := by unfold tln; split <;> omega
  refine ex_39 ⟨by omega, by omega⟩ ?_
  have h4 := h.2.2.2.1
  refine ix_42r (G := (G.1 + 1, G.2.1 + ((tln m z j : Nat) : Int).toNat, am_u1 G.2.2 (64 + G.1) (.inl (0, ((tln m z j : Nat) : Int).toNat)))) (I := am_u1 I (64 + G.1) (fun _ => 0)) (P := am_u1 P (64 + G.1) (fun _ => none)) ?_ ?_
  · show am_u1 G.2.2 (64 + G.1) _ t = _
    rw [u1_at (by have := h.1; omega)]; exact h4
  · rw [Int.toNat_natCast]
    exact hk _ _ _ (NT_step ht hj h)
theorem k_textNew {d : Nat} {G0 : am_G} {I0 : Nat → Nat → Int} {P0 : Nat → Nat → Option Nat} {t m z : Nat} {G : am_G} {I : Nat → Nat → Int} {P : Nat → Nat → Option Nat} (ht : t = 64 + G0.1) (hm : m ≤ 12) (hz : z ≤ 436) (h : NT G0 I0 P0 t m z 0 G I P) : ∃ G1 I1 P1, am_call am_B am_M (d + 1) 89 [.inr (.inr (some t)), .inl (m : Int), .inl (z : Int)] (G, I, P) = some (none, (G1, I1, P1)) ∧ NT G0 I0 P0 t m z 6 G1 I1 P1 := by
  have w : am_ex (am_call am_B am_M d) (am_B 89) (am_B 89 0) [some (.inr (.inr (some t))), some (.inl (m : Int)), some (.inl (z : Int))] [] (G, I, P) (fun o => ∃ G1 I1 P1, o = (none, (G1, I1, P1)) ∧ NT G0 I0 P0 t m z 6 G1 I1 P1) := by
    refine ex_6_0 (ex_47 rfl ?_)
    refine ex_6_0 (ex_4_1 (NT_put 0 ht (by decide) hm hz h rfl rfl (fun G1 I1 P1 h1 => ?_)))
    refine ex_6_0 (ex_4_1 (NT_put 1 ht (by decide) hm hz h1 rfl rfl (fun G2 I2 P2 h2 => ?_)))
    refine ex_6_0 (ex_4_1 (NT_put 2 ht (by decide) hm hz h2 rfl rfl (fun G3 I3 P3 h3 => ?_)))
    refine ex_6_0 (ex_4_1 (NT_put 3 ht (by decide) hm hz h3 rfl rfl (fun G4 I4 P4 h4 => ?_)))
    refine ex_6_0 (ex_4_1 (NT_put 4 ht (by decide) hm hz h4 rfl rfl (fun G5 I5 P5 h5 => ?_)))
    refine ex_6_0 (ex_4_2 (NT_put 5 ht (by decide) hm hz h5 rfl rfl (fun G6 I6 P6 h6 => ?_)))
    exact ex_56 ⟨G6, I6, P6, rfl, h6⟩
  obtain ⟨o, e, G1, I1, P1, rfl, h1⟩ := am_doQ (as := [.inr (.inr (some t)), .inl (m : Int), .inl (z : Int)]) (Nat.le_of_ble_eq_true rfl) rfl w
  exact ⟨G1, I1, P1, e, h1⟩
/-- j rows are copied -/
def NC (I0 : Nat → Nat → Int) (t m z j : Nat) (I : Nat → Nat → Int) : Prop := (∀ q k, q < t → I q k = I0 q k) ∧ (∀ i k, i < j → k < tln m z i → I (t + 1 + i) k = I0 (163 + i) k)
theorem NC_cp {K : Nat → List am_V → am_H → Option am_O} {B : Nat → List am_I} {is : List am_I} {L : am_L} {S : List am_V} {Q : am_O → Prop} {I0 : Nat → Nat → Int} {t m z : Nat} (j : Nat) {G : am_G} {I : Nat → Nat → Int} {P : Nat → Nat → Option Nat} {pc : Nat} {c : Int} {ns : List Nat} (ht : 240 ≤ t) (hj : j < 6) (hm : m ≤ 12) (hz : z ≤ 436) {ln q0 q1 : Nat} (hl : tln m z j = ln) (hq0 : 163 + j = q0) (hq1 : t + 1 + j = q1) {C : Nat} (e0 : G.2.2 q0 = .inl (0, C)) (hC : ln ≤ C) (e1 : G.2.2 q1 = .inl (0, tln m z j)) (hS : am_sz S ≤ 8) (h : NC I0 t m z j I) (hk : ∀ I1, NC I0 t m z (j + 1) I1 → am_ex K B is L S (G, I1, P) Q) : am_ex K B ((52, pc, c, ns) :: is) L (.inl (ln : Int) :: .inl 0 :: .inr (.inr (some q1)) :: .inl 0 :: .inr (.inr (some q0)) :: S) (G, I, P) Q := by
  subst hl
  subst hq0
  subst hq1
  refine ix_52 (sj := 0) (dj := 0) (nj := tln m z j) e0 e1 ⟨by omega, by omega, by omega, by omega, by omega, hS⟩ rfl rfl (by omega) (hk _ ⟨fun q k hq => ?_, fun i k hi hk' => ?_⟩)
  · rw [u1_qk (by omega)]; exact h.1 q k hq
  · by_cases e : i = j
    · subst e
      have : am_u1 I (t + 1 + i) (am_cp (I (163 + i)) (I (t + 1 + i)) 0 0 (tln m z i)) (t + 1 + i) k = I (163 + i) k := by
        rw [am_u1, if_pos rfl]; exact cp_00 hk'
      rw [this]; exact h.1 _ _ (by omega)
    · rw [u1_qk (by omega)]; exact h.2 i k (by omega) hk'
/-- a copy of the draft -/
def TC (G : am_G) (I : Nat → Nat → Int) (P : Nat → Nat → Option Nat) (t m z : Nat) (G1 : am_G) (I1 : Nat → Nat → Int) (P1 : Nat → Nat → Option Nat) : Prop := NT G I P t m z 6 G1 I1 P1 ∧ (∀ i k, i < 6 → k < tln m z i → I1 (t + 1 + i) k = I (163 + i) k) ∧ I1 t 5 = (m : Int) ∧ I1 t 7 = (z : Int)
theorem k_textCopy {d : Nat} {G : am_G} {I : Nat → Nat → Int} {P : Nat → Nat → Option Nat} (hS : ST G P) {t m z : Nat} (ht : t = 64 + G.1) (ht2 : 240 ≤ t) (hm : m ≤ 12) (hz : z ≤ 436) (h5 : I 162 5 = (m : Int)) (h7 : I 162 7 = (z : Int)) : ∃ G1 I1 P1, am_call am_B am_M (d + 2) 90 [.inr (.inr (some 162))] (G, I, P) = some (some (.inr (.inr (some t))), (G1, I1, P1)) ∧ TC G I P t m z G1 I1 P1 := by
  have w : am_ex (am_call am_B am_M (d + 1)) (am_B 90) (am_B 90 0) [some (.inr (.inr (some 162))), none] [] (G, I, P) (fun o => ∃ G1 I1 P1, o = (some (.inr (.inr (some t))), (G1, I1, P1)) ∧ TC G I P t m z G1 I1 P1) := by
    subst ht
    have h0 : NT G I P (64 + G.1) m z 0 (G.1 + 1, G.2.1 + 8, am_u1 G.2.2 (64 + G.1) (.inr 9)) (am_u1 I (64 + G.1) (fun _ => 0)) (am_u1 P (64 + G.1) (fun _ => none)) := by
      refine ⟨rfl, ?_, fun q hq => u1_at (by omega), if_pos rfl, fun i hi => absurd hi (by omega), fun i hi => absurd hi (by omega), fun q k hq => ?_, fun q k hq => ?_⟩
      · unfold tsl; rw [if_pos (by omega), Nat.zero_mul]
      · rw [u1_at (by omega)]
      · rw [u1_at (by omega)]
    obtain ⟨G1, I1, P1, e1, n1⟩ := k_textNew (d := d) rfl hm hz h0
    refine ex_44 (ex_22 rfl (ex_6_0 ?_))
    refine ix_41i (v := (m : Int)) (G := (G.1 + 1, G.2.1 + 8, am_u1 G.2.2 (64 + G.1) (.inr 9))) (I := am_u1 I (64 + G.1) (fun _ => 0)) (P := am_u1 P (64 + G.1) (fun _ => none)) ((u1_at (by omega)).trans (sh_162 hS)) (by rw [u1_at (by omega)]; exact h5) (ex_6_0 ?_)
    refine ix_41i (v := (z : Int)) ((u1_at (by omega)).trans (sh_162 hS)) (by rw [u1_at (by omega)]; exact h7) ?_
    refine ix_46 (S' := [.inr (.inr (some (64 + G.1)))]) rfl (if_pos rfl) e1 rfl rfl (ex_9_1 rfl ?_)
    obtain ⟨g1, g2, g3, g4, g5, g6, g7, g8⟩ := id n1
    have sh : ∀ q s, q < 64 + G.1 → G.2.2 q = s → G1.2.2 q = s := fun q s hq e => (g3 q hq).trans e
    have pt : ∀ q k s, q < 64 + G.1 → P q k = s → P1 q k = s := fun q k s hq e => (g8 q k hq).trans e
    have k0 : NC I (64 + G.1) m z 0 I1 := ⟨g7, fun i k hi => absurd hi (by omega)⟩
    refine ex_6_0 (ix_41r (sh 162 _ (by omega) (sh_162 hS)) (pt 162 0 _ (by omega) (pt_162_0 hS)) (ex_0 (ex_6_1 (ix_41r g4 (g6 0 (by decide)) (ex_0 (ex_6_0 (ix_41i (v := (m : Int)) (sh 162 _ (by omega) (sh_162 hS)) ((k0.1 162 5 (by omega)).trans h5) ?_)))))))
    refine NC_cp 0 (by omega) (by decide) hm hz (ln := m) (C := 12) rfl rfl rfl (sh 163 _ (by omega) (sh_163 hS)) (by omega) (g5 0 (by decide)) (by show _ ≤ _; decide) k0 (fun J1 k1 => ?_)
    refine ex_6_0 (ix_41r (sh 162 _ (by omega) (sh_162 hS)) (pt 162 1 _ (by omega) (pt_162_1 hS)) (ex_0 (ex_6_1 (ix_41r g4 (g6 1 (by decide)) (ex_0 (ex_6_0 (ix_41i (v := (m : Int)) (sh 162 _ (by omega) (sh_162 hS)) ((k1.1 162 5 (by omega)).trans h5) ?_)))))))
    refine NC_cp 1 (by omega) (by decide) hm hz (ln := m) (C := 12) rfl rfl rfl (sh 164 _ (by omega) (sh_164 hS)) (by omega) (g5 1 (by decide)) (by show _ ≤ _; decide) k1 (fun J2 k2 => ?_)
    refine ex_6_0 (ix_41r (sh 162 _ (by omega) (sh_162 hS)) (pt 162 2 _ (by omega) (pt_162_2 hS)) (ex_0 (ex_6_1 (ix_41r g4 (g6 2 (by decide)) (ex_0 (ex_6_0 (ix_41i (v := (m : Int)) (sh 162 _ (by omega) (sh_162 hS)) ((k2.1 162 5 (by omega)).trans h5) ?_)))))))
    refine NC_cp 2 (by omega) (by decide) hm hz (ln := m) (C := 12) rfl rfl rfl (sh 165 _ (by omega) (sh_165 hS)) (by omega) (g5 2 (by decide)) (by show _ ≤ _; decide) k2 (fun J3 k3 => ?_)
    refine ex_6_0 (ix_41r (sh 162 _ (by omega) (sh_162 hS)) (pt 162 3 _ (by omega) (pt_162_3 hS)) (ex_0 (ex_6_1 (ix_41r g4 (g6 3 (by decide)) (ex_0 (ex_6_0 (ix_41i (v := (m : Int)) (sh 162 _ (by omega) (sh_162 hS)) ((k3.1 162 5 (by omega)).trans h5) ?_)))))))
    refine NC_cp 3 (by omega) (by decide) hm hz (ln := m) (C := 12) rfl rfl rfl (sh 166 _ (by omega) (sh_166 hS)) (by omega) (g5 3 (by decide)) (by show _ ≤ _; decide) k3 (fun J4 k4 => ?_)
    refine ex_6_0 (ix_41r (sh 162 _ (by omega) (sh_162 hS)) (pt 162 4 _ (by omega) (pt_162_4 hS)) (ex_0 (ex_6_1 (ix_41r g4 (g6 4 (by decide)) (ex_0 (ex_6_0 (ix_41i (v := (m : Int)) (sh 162 _ (by omega) (sh_162 hS)) ((k4.1 162 5 (by omega)).trans h5) ?_)))))))
    refine NC_cp 4 (by omega) (by decide) hm hz (ln := m) (C := 12) rfl rfl rfl (sh 167 _ (by omega) (sh_167 hS)) (by omega) (g5 4 (by decide)) (by show _ ≤ _; decide) k4 (fun J5 k5 => ?_)
    refine ex_6_0 (ix_41r (sh 162 _ (by omega) (sh_162 hS)) (pt 162 6 _ (by omega) (pt_162_6 hS)) (ex_0 (ex_6_1 (ix_41r g4 (g6 5 (by decide)) (ex_0 (ex_6_0 (ix_41i (v := (z : Int)) (sh 162 _ (by omega) (sh_162 hS)) ((k5.1 162 7 (by omega)).trans h7) ?_)))))))
    refine NC_cp 5 (by omega) (by decide) hm hz (ln := z) (C := 436) rfl rfl rfl (sh 168 _ (by omega) (sh_168 hS)) (by omega) (g5 5 (by decide)) (by show _ ≤ _; decide) k5 (fun J6 k6 => ?_)
    refine ex_6_1 (ex_6_0 (ix_41i (v := (m : Int)) (sh 162 _ (by omega) (sh_162 hS)) ((k6.1 162 5 (by omega)).trans h5) (ix_42i g4 (ex_6_1 (ex_6_0 ?_)))))
    refine ix_41i (v := (z : Int)) (sh 162 _ (by omega) (sh_162 hS)) ((u2_q (by omega)).trans ((k6.1 162 7 (by omega)).trans h7)) (ix_42i g4 (ex_6_1 ?_))
    refine ex_55 ⟨G1, _, P1, rfl, ⟨g1, g2, g3, g4, g5, g6, fun q k hq => (u2_q (by omega)).trans ((u2_q (by omega)).trans (k6.1 q k hq)), g8⟩, fun i k hi hk => (u2_q (by omega)).trans ((u2_q (by omega)).trans (k6.2 i k hi hk)), (u2_k (by decide)).trans u2_e, u2_e⟩
  obtain ⟨o, e, G1, I1, P1, rfl, h1⟩ := am_doQ (as := [.inr (.inr (some 162))]) (Nat.le_of_ble_eq_true rfl) rfl w
  exact ⟨G1, I1, P1, e, h1⟩
