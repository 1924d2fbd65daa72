/-! ===== the reference reads parts ===== -/
def MR (J : Nat → Nat → Int) (b : Nat → Int) (n : Nat) (od : Bool) (s l c p op : Nat) : Prop := MK J b n s ∧ s ≤ n ∧ l ≤ 50 ∧ (J 208 19 = 0 ∧ J 208 18 = -1) ∧ J 208 20 = (if od = true then 1 else 0) ∧ J 208 26 = (l : Int) ∧ J 208 30 = (op : Int) ∧ op ≤ 8 ∧ PI J c p ∧ c + p ≤ s ∧ KM J
def BAD (J : Nat → Nat → Int) (x : Nat) : Prop := J 208 19 = 1 ∧ J 208 18 = (x : Int) ∧ ∃ c p, PI J c p
def MFr (a p : Nat) (I J : Nat → Nat → Int) : Prop := ∀ q k, ¬ (q = 208 ∧ ((14 ≤ k ∧ k ≤ 19) ∨ k = 23 ∨ k = 26 ∨ k = 29 ∨ k = 30)) → ¬ ((q = 219 ∨ q = 220) ∧ a ≤ k) → ¬ ((q = 221 ∨ q = 222) ∧ p ≤ k) → J q k = I q k
theorem MFr_refl {a p : Nat} {I : Nat → Nat → Int} : MFr a p I I := fun _ _ _ _ _ => rfl
theorem MFr_trans {a p a' p' : Nat} {I J K : Nat → Nat → Int} (h : MFr a p I J) (h2 : MFr a' p' J K) (ha : a ≤ a') (hp : p ≤ p') : MFr a p I K := fun q k x y z => (h2 q k x (by omega) (by omega)).trans (h q k x y z)
theorem MFr_MK {a p : Nat} {I J : Nat → Nat → Int} (h : MKF I J) : MFr a p I J := fun q k x _ _ => h q k (by omega)
theorem MFr_SF {a c p : Nat} {I J : Nat → Nat → Int} (h : SF a c I J) (hc : a ≤ c) : MFr a p I J := fun q k x y z => h q k (by omega) (by omega) (by omega)
section
variable {J : Nat → Nat → Int} {b : Nat → Int} {n : Nat} {od : Bool} {s l c p op : Nat}
theorem MR_M (h : MR J b n od s l c p op) : MK J b n s := h.1
theorem MR_s (h : MR J b n od s l c p op) : s ≤ n := h.2.1
theorem MR_l (h : MR J b n od s l c p op) : l ≤ 50 := h.2.2.1
theorem MR_b (h : MR J b n od s l c p op) : J 208 19 = 0 := h.2.2.2.1.1
theorem MR_o (h : MR J b n od s l c p op) : J 208 20 = (if od = true then 1 else 0) := h.2.2.2.2.1
theorem MR_26 (h : MR J b n od s l c p op) : J 208 26 = (l : Int) := h.2.2.2.2.2.1
theorem MR_30 (h : MR J b n od s l c p op) : J 208 30 = (op : Int) := h.2.2.2.2.2.2.1
theorem MR_8 (h : MR J b n od s l c p op) : op ≤ 8 := h.2.2.2.2.2.2.2.1
theorem MR_P (h : MR J b n od s l c p op) : PI J c p := h.2.2.2.2.2.2.2.2.1
theorem MR_cp (h : MR J b n od s l c p op) : c + p ≤ s := h.2.2.2.2.2.2.2.2.2.1
theorem MR_K (h : MR J b n od s l c p op) : KM J := h.2.2.2.2.2.2.2.2.2.2
theorem MR_bad (h : MR J b n od s l c p op) : BAD (am_u2 (am_u2 J 208 19 1) 208 18 (s : Int)) s := by
  obtain ⟨h23, h29, hcp, hE⟩ := MR_P h
  exact ⟨(u2_k (by decide)).trans u2_e, u2_e, c, p, (u2_k (by decide)).trans ((u2_k (by decide)).trans h23), (u2_k (by decide)).trans ((u2_k (by decide)).trans h29), hcp, fun j hj => by rw [u2_q (by decide), u2_q (by decide), u2_q (by decide), u2_q (by decide)]; exact hE j hj⟩
theorem MFr_bad {a p' : Nat} {v w : Int} : MFr a p' J (am_u2 (am_u2 J 208 19 v) 208 18 w) := fun q k x _ _ => (u2_o (by omega)).trans (u2_o (by omega))
/-- the next token -/
theorem MR_next {I1 : Nat → Nat → Int} (h : MR J b n od s l c p op) (hl : s < n) (m : MK I1 b n (nx b n s)) (f : MKF J I1) : MR I1 b n od (nx b n s) l c p op := by
  obtain ⟨-, hs, h50, h19, h20, h26, h30, h8, ⟨h23, h29, hcp, hE⟩, hc, hK⟩ := h
  have hn := nx_2 (b := b) s hl
  exact ⟨m, hn.2, h50, ⟨(f _ _ (by decide)).trans h19.1, (f _ _ (by decide)).trans h19.2⟩, (f _ _ (by decide)).trans h20, (f _ _ (by decide)).trans h26, (f _ _ (by decide)).trans h30, h8, ⟨(f _ _ (by decide)).trans h23, (f _ _ (by decide)).trans h29, hcp, fun j hj => by rw [f _ _ (by omega), f _ _ (by omega)]; exact hE j hj⟩, by omega, KM_fr hK (fun q k hq => f _ _ (by omega))⟩
/-- something is pushed -/
theorem MR_push {o a : Int} {op' : Nat} (h : MR J b n od s l c p op) (hc : c + p < s) (ho : 20 ≤ o ∧ o ≤ 32) (ha : (o = 29 ∨ o = 30) → ∃ x : Nat, x < 400 ∧ a = (x : Int)) (hn : n ≤ 400) : MR (am_u2 (am_u2 (am_u2 J 221 p o) 222 p a) 208 29 ((p : Int) + 1)) b n od s l c (p + 1) op := by
  obtain ⟨hM, hs, h50, h19, h20, h26, h30, h8, ⟨h23, h29, hcp, hE⟩, hc0, hK⟩ := h
  have f : ∀ q k, ¬ (q = 221 ∧ k = p) → ¬ (q = 222 ∧ k = p) → ¬ (q = 208 ∧ k = 29) → am_u2 (am_u2 (am_u2 J 221 p o) 222 p a) 208 29 ((p : Int) + 1) q k = J q k := fun q k a1 a2 a3 => (u2_o a3).trans ((u2_o a2).trans (u2_o a1))
  refine ⟨MK_fr hM (fun q k hq => f q k (by omega) (by omega) (by omega)), hs, h50, ⟨(f _ _ (by omega) (by omega) (by omega)).trans h19.1, (f _ _ (by omega) (by omega) (by omega)).trans h19.2⟩, (f _ _ (by omega) (by omega) (by omega)).trans h20, (f _ _ (by omega) (by omega) (by omega)).trans h26, (f _ _ (by omega) (by omega) (by omega)).trans h30, h8, ⟨(f _ _ (by omega) (by omega) (by omega)).trans h23, u2_e, by omega, fun j hj => ?_⟩, by omega, KM_fr hK (fun q k hq => f q k (by omega) (by omega) (by omega))⟩
  by_cases e : j = p
  · subst e
    rw [u2_q (by decide), u2_q (by decide), u2_e, u2_q (by decide), u2_e]
    exact ⟨ho.1, ho.2, fun hao => ha hao⟩
  · rw [f 221 j (by omega) (by omega) (by omega), f 222 j (by omega) (by omega) (by omega)]
    exact hE j (by omega)
theorem MR_30w {op' : Nat} (h : MR J b n od s l c p op) (h8 : op' ≤ 8) : MR (am_u2 J 208 30 (op' : Int)) b n od s l c p op' := by
  obtain ⟨hM, hs, h50, h19, h20, h26, h30, _, ⟨h23, h29, hcp, hE⟩, hc0, hK⟩ := h
  exact ⟨MK_fr hM (fun q k hq => u2_o (by omega)), hs, h50, ⟨(u2_k (by decide)).trans h19.1, (u2_k (by decide)).trans h19.2⟩, (u2_k (by decide)).trans h20, (u2_k (by decide)).trans h26, u2_e, h8, ⟨(u2_k (by decide)).trans h23, (u2_k (by decide)).trans h29, hcp, fun j hj => by rw [u2_q (by decide), u2_q (by decide)]; exact hE j hj⟩, hc0, KM_fr hK (fun q k hq => u2_q (by omega))⟩
/-- something is emitted -/
theorem MR_emit {o a : Int} (h : MR J b n od s l c p op) (hc : c + p < s) (hn : n ≤ 400) : MR (am_u2 (am_u2 (am_u2 J 219 c o) 220 c a) 208 23 ((c : Int) + 1)) b n od s l (c + 1) p op := by
  obtain ⟨hM, hs, h50, h19, h20, h26, h30, h8, ⟨h23, h29, hcp, hE⟩, hc0, hK⟩ := h
  have f : ∀ q k, ¬ q = 219 → ¬ q = 220 → ¬ (q = 208 ∧ k = 23) → am_u2 (am_u2 (am_u2 J 219 c o) 220 c a) 208 23 ((c : Int) + 1) q k = J q k := fun q k a1 a2 a3 => (u2_o a3).trans ((u2_q a2).trans (u2_q a1))
  exact ⟨MK_fr hM (fun q k hq => f q k (by omega) (by omega) (by omega)), hs, h50, ⟨(f _ _ (by omega) (by omega) (by omega)).trans h19.1, (f _ _ (by omega) (by omega) (by omega)).trans h19.2⟩, (f _ _ (by omega) (by omega) (by omega)).trans h20, (f _ _ (by omega) (by omega) (by omega)).trans h26, (f _ _ (by omega) (by omega) (by omega)).trans h30, h8, ⟨u2_e, (f _ _ (by omega) (by omega) (by omega)).trans h29, by omega, fun j hj => by rw [f 221 j (by omega) (by omega) (by omega), f 222 j (by omega) (by omega) (by omega)]; exact hE j hj⟩, by omega, KM_fr hK (fun q k hq => f q k (by omega) (by omega) (by omega))⟩
theorem MR_26w {l' : Nat} (h : MR J b n od s l c p op) (h5 : l' ≤ 50) : MR (am_u2 J 208 26 (l' : Int)) b n od s l' c p op := by
  obtain ⟨hM, hs, h50, h19, h20, h26, h30, h8, ⟨h23, h29, hcp, hE⟩, hc0, hK⟩ := h
  exact ⟨MK_fr hM (fun q k hq => u2_o (by omega)), hs, h5, ⟨(u2_k (by decide)).trans h19.1, (u2_k (by decide)).trans h19.2⟩, (u2_k (by decide)).trans h20, u2_e, (u2_k (by decide)).trans h30, h8, ⟨(u2_k (by decide)).trans h23, (u2_k (by decide)).trans h29, hcp, fun j hj => by rw [u2_q (by decide), u2_q (by decide)]; exact hE j hj⟩, hc0, KM_fr hK (fun q k hq => u2_q (by omega))⟩
end
theorem MR_arg {J : Nat → Nat → Int} {b : Nat → Int} {n : Nat} {od : Bool} {s l c p op x : Nat} {v : Int} (h : MR J b n od s l c p op) (hx : x < 400) : MR (am_u2 J 220 x v) b n od s l c p op := by
  obtain ⟨hM, hs, h50, h19, h20, h26, h30, h8, ⟨h23, h29, hcp, hE⟩, hc0, hK⟩ := h
  exact ⟨MK_fr hM (fun q k hq => u2_q (by omega)), hs, h50, ⟨(u2_q (by decide)).trans h19.1, (u2_q (by decide)).trans h19.2⟩, (u2_q (by decide)).trans h20, (u2_q (by decide)).trans h26, (u2_q (by decide)).trans h30, h8, ⟨(u2_q (by decide)).trans h23, (u2_q (by decide)).trans h29, hcp, fun j hj => by rw [u2_q (by decide), u2_q (by decide)]; exact hE j hj⟩, hc0, KM_fr hK (fun q k hq => u2_q (by omega))⟩
theorem BAD_arg {J : Nat → Nat → Int} {x k : Nat} {v : Int} (h : BAD J x) : BAD (am_u2 J 220 k v) x := by
  obtain ⟨h1, h2, c, p, h23, h29, hcp, hE⟩ := h
  exact ⟨(u2_q (by decide)).trans h1, (u2_q (by decide)).trans h2, c, p, (u2_q (by decide)).trans h23, (u2_q (by decide)).trans h29, hcp, fun j hj => by rw [u2_q (by decide), u2_q (by decide)]; exact hE j hj⟩
theorem MFr_push {a p q : Nat} {J : Nat → Nat → Int} {o x v : Int} (h : p ≤ q) : MFr a p J (am_u2 (am_u2 (am_u2 J 221 q o) 222 q x) 208 29 v) := fun q' k y1 y2 y3 => (u2_o (by omega)).trans ((u2_o (by omega)).trans (u2_o (by omega)))
theorem MFr_emit {a p c : Nat} {J : Nat → Nat → Int} {o x v : Int} (h : a ≤ c) : MFr a p J (am_u2 (am_u2 (am_u2 J 219 c o) 220 c x) 208 23 v) := fun q' k y1 y2 y3 => (u2_o (by omega)).trans ((u2_o (by omega)).trans (u2_o (by omega)))
theorem MFr_w {a p k0 : Nat} {J : Nat → Nat → Int} {v : Int} (h : k0 = 26 ∨ k0 = 30 ∨ k0 = 29 ∨ k0 = 23) : MFr a p J (am_u2 J 208 k0 v) := fun q' k y1 y2 y3 => u2_o (by omega)
theorem c_open_t {d : Nat} {G : am_G} {I : Nat → Nat → Int} {P : Nat → Nat → Option Nat} (hS : ST G P) {b : Nat → Int} {n : Nat} (hB : TB b n) {od : Bool} {s l c p op : Nat} (hR : MR I b n od s l c p op) {ov : Int} (ho : ov = 31 ∨ ov = 32) (hop : op < 8) (hlt : s < n) : ∃ I1, am_call am_B am_M (d + 4) 214 [(.inr (.inr (some 208))), (.inl ov)] (G, I, P) = some (none, (G, I1, P)) ∧ (MR I1 b n od (nx b n s) l c (p + 1) (op + 1) ∧ I1 221 p = ov ∧ MFr c p I I1) := by
  have hn4 := hB.1
  have hs := MR_s hR
  have hcp := MR_cp hR
  have hnx := nx_2 (b := b) s hlt
  have w : am_ex (am_call am_B am_M (d + 3)) (am_B 214) (am_B 214 0) [some (.inr (.inr (some 208))), some (.inl ov)] [] (G, I, P) (fun o => ∃ I1, o = (none, (G, I1, P)) ∧ (MR I1 b n od (nx b n s) l c (p + 1) (op + 1) ∧ I1 221 p = ov ∧ MFr c p I I1)) := by
    refine (ex_6_0 (ex_6_0 (ix_41i (v := (op : Int)) (sh_208 hS) (MR_30 hR) (ex_0 ?_))))
    refine ex_ic3 (fun hc7 => by exfalso; omega) (fun hc7 => ?_)
    refine (ex_0 (ex_28 ?_))
    obtain ⟨I1, e1, m1, f1⟩ := c_must_t (d := d) hS hB (MR_M hR) (MR_s hR) (MR_b hR)
    have rI1 := MR_next hR hlt m1 f1
    refine (ix_46 (S' := []) rfl (sh_208 hS) e1 rfl rfl (ex_6_0 (ix_41i (v := 0) (sh_208 hS) (MR_b rI1) (ex_if1 (fun hc => by exfalso; revert hc; decide) (fun _ => ?_)))))
    refine (ex_6_0 (ex_22 rfl (ix_41i (v := (op : Int)) (sh_208 hS) (MR_30 rI1) (ex_0 (ex_add ⟨by omega, by omega⟩ (ix_42i (sh_208 hS) (ex_6_0 (ex_4_1 (ex_0 (ix_46 (S' := []) rfl (sh_208 hS) (c_push (p := p) hS ((u2_k (by decide)).trans (MR_P rI1).2.1) (by omega)) rfl rfl (ex_58 ?_)))))))))))
    exact ex_56 ⟨_, rfl, MR_push (op' := 0) (MR_30w (op' := op + 1) rI1 (by omega)) (by omega) (by omega) (fun h => absurd h (by omega)) hn4, (u2_q (by decide)).trans ((u2_q (by decide)).trans u2_e), MFr_trans (MFr_MK f1) (MFr_trans (MFr_w (Or.inr (Or.inl rfl))) (MFr_push (Nat.le_refl _)) (Nat.le_refl _) (Nat.le_refl _)) (Nat.le_refl _) (Nat.le_refl _)⟩
  obtain ⟨o, e, I1, rfl, h⟩ := am_doQ (as := [(.inr (.inr (some 208))), (.inl ov)]) (Nat.le_of_ble_eq_true rfl) rfl w
  exact ⟨I1, e, h⟩
theorem c_open_f {d : Nat} {G : am_G} {I : Nat → Nat → Int} {P : Nat → Nat → Option Nat} (hS : ST G P) {b : Nat → Int} {n : Nat} (hB : TB b n) {od : Bool} {s l c p op : Nat} (hR : MR I b n od s l c p op) {ov : Int} (hop : op = 8) : am_call am_B am_M (d + 4) 214 [(.inr (.inr (some 208))), (.inl ov)] (G, I, P) = some (none, (G, am_u2 (am_u2 I 208 19 1) 208 18 (s : Int), P)) := by
  refine am_doL (L := [some (.inr (.inr (some 208))), some (.inl ov)]) (Nat.le_of_ble_eq_true rfl) rfl ?_
  refine (ex_6_0 (ex_6_0 (ix_41i (v := 8) (sh_208 hS) ((MR_30 hR).trans (by rw [hop]; rfl)) (ex_0 (ex_ic3 (fun _ => ?_) (fun hc => by exfalso; revert hc; decide))))))
  refine (ex_0 (ex_58 (ix_46 (S' := []) rfl (sh_208 hS) (c_must_f hS (MR_M hR).2.1 (MR_b hR)) rfl rfl (ex_6_0 (ix_41i (v := 1) (sh_208 hS) ((u2_k (by decide)).trans u2_e) (ex_if1 (fun _ => ?_) (fun hc => by exfalso; revert hc; decide)))))))
  exact ex_56 rfl
theorem c_leaf_t {d : Nat} {G : am_G} {I : Nat → Nat → Int} {P : Nat → Nat → Option Nat} (hS : ST G P) {b : Nat → Int} {n : Nat} (hB : TB b n) {od : Bool} {s l c p op : Nat} (hR : MR I b n od s l c p op) {ov av : Int} (hl : l < 50) (hlt : s < n) : ∃ I1, am_call am_B am_M (d + 4) 215 [(.inr (.inr (some 208))), (.inl 1), (.inl ov), (.inl av)] (G, I, P) = some (none, (G, I1, P)) ∧ (MR I1 b n od (nx b n s) (l + 1) (c + 1) p op ∧ I1 219 c = ov ∧ I1 220 c = av ∧ MFr c p I I1) := by
  have hn4 := hB.1
  have hs := MR_s hR
  have hcp := MR_cp hR
  have hnx := nx_2 (b := b) s hlt
  have w : am_ex (am_call am_B am_M (d + 3)) (am_B 215) (am_B 215 0) [some (.inr (.inr (some 208))), some (.inl 1), some (.inl ov), some (.inl av)] [] (G, I, P) (fun o => ∃ I1, o = (none, (G, I1, P)) ∧ (MR I1 b n od (nx b n s) (l + 1) (c + 1) p op ∧ I1 219 c = ov ∧ I1 220 c = av ∧ MFr c p I I1)) := by
    refine (ex_6_0 (ex_4_1 (ex_if0 (fun hc => by exfalso; revert hc; decide) (fun _ => ?_))))
    refine (ex_6_0 (ix_41i (v := (l : Int)) (sh_208 hS) (MR_26 hR) (ex_0 ?_)))
    refine ex_ic3 (fun hc11 => by exfalso; omega) (fun hc11 => ?_)
    refine (ex_0 (ex_28 ?_))
    obtain ⟨I1, e1, m1, f1⟩ := c_must_t (d := d) hS hB (MR_M hR) (MR_s hR) (MR_b hR)
    have rI1 := MR_next hR hlt m1 f1
    refine (ix_46 (S' := []) rfl (sh_208 hS) e1 rfl rfl (ex_6_0 (ix_41i (v := 0) (sh_208 hS) (MR_b rI1) (ex_if1 (fun hc => by exfalso; revert hc; decide) (fun _ => ?_)))))
    refine (ex_6_0 (ex_4_2 (ex_4_3 (ix_46 (S' := []) rfl (sh_208 hS) (c_emit (c := c) hS (MR_P rI1).1 (by omega)) rfl rfl (ex_6_0 (ex_22 rfl (ix_41i (v := (l : Int)) (sh_208 hS) ((u2_k (by decide)).trans ((u2_q (by decide)).trans ((u2_q (by decide)).trans (MR_26 rI1)))) (ex_0 (ex_add ⟨by omega, by omega⟩ (ix_42i (sh_208 hS) (ex_58 ?_)))))))))))
    exact ex_56 ⟨_, rfl, MR_26w (l' := l + 1) (MR_emit rI1 (by omega) hn4) (by omega), (u2_q (by decide)).trans ((u2_q (by decide)).trans ((u2_q (by decide)).trans u2_e)), (u2_q (by decide)).trans ((u2_q (by decide)).trans u2_e), MFr_trans (MFr_MK f1) (MFr_trans (MFr_emit (Nat.le_refl _)) (MFr_w (Or.inl rfl)) (Nat.le_refl _) (Nat.le_refl _)) (Nat.le_refl _) (Nat.le_refl _)⟩
  obtain ⟨o, e, I1, rfl, h⟩ := am_doQ (as := [(.inr (.inr (some 208))), (.inl 1), (.inl ov), (.inl av)]) (Nat.le_of_ble_eq_true rfl) rfl w
  exact ⟨I1, e, h⟩
theorem c_leaf_0 {d : Nat} {G : am_G} {I : Nat → Nat → Int} {P : Nat → Nat → Option Nat} (hS : ST G P) {b : Nat → Int} {n : Nat} (hB : TB b n) {od : Bool} {s l c p op : Nat} (hR : MR I b n od s l c p op) {ov av : Int} : am_call am_B am_M (d + 4) 215 [(.inr (.inr (some 208))), (.inl 0), (.inl ov), (.inl av)] (G, I, P) = some (none, (G, am_u2 (am_u2 I 208 19 1) 208 18 (s : Int), P)) := by
  refine am_doL (L := [some (.inr (.inr (some 208))), some (.inl 0), some (.inl ov), some (.inl av)]) (Nat.le_of_ble_eq_true rfl) rfl ?_
  refine (ex_6_0 (ex_4_1 (ex_if0 (fun _ => ?_) (fun hc => by exfalso; revert hc; decide))))
  refine (ex_0 (ex_58 (ix_46 (S' := []) rfl (sh_208 hS) (c_must_f hS (MR_M hR).2.1 (MR_b hR)) rfl rfl (ex_6_0 (ix_41i (v := 1) (sh_208 hS) ((u2_k (by decide)).trans u2_e) (ex_if1 (fun _ => ?_) (fun hc => by exfalso; revert hc; decide)))))))
  exact ex_56 rfl
theorem c_leaf_f {d : Nat} {G : am_G} {I : Nat → Nat → Int} {P : Nat → Nat → Option Nat} (hS : ST G P) {b : Nat → Int} {n : Nat} (hB : TB b n) {od : Bool} {s l c p op : Nat} (hR : MR I b n od s l c p op) {v ov av : Int} (hl : ¬ l < 50) : am_call am_B am_M (d + 4) 215 [(.inr (.inr (some 208))), (.inl v), (.inl ov), (.inl av)] (G, I, P) = some (none, (G, am_u2 (am_u2 I 208 19 1) 208 18 (s : Int), P)) := by
  refine am_doL (L := [some (.inr (.inr (some 208))), some (.inl v), some (.inl ov), some (.inl av)]) (Nat.le_of_ble_eq_true rfl) rfl ?_
  refine (ex_6_0 (ex_4_1 ?_))
  refine ex_if0 (fun hc2 => ?_) (fun hc2 => ?_)
  · refine (ex_0 (ex_58 (ix_46 (S' := []) rfl (sh_208 hS) (c_must_f hS (MR_M hR).2.1 (MR_b hR)) rfl rfl (ex_6_0 (ix_41i (v := 1) (sh_208 hS) ((u2_k (by decide)).trans u2_e) (ex_if1 (fun _ => ?_) (fun hc => by exfalso; revert hc; decide)))))))
    exact ex_56 rfl
  · refine (ex_6_0 (ix_41i (v := (l : Int)) (sh_208 hS) (MR_26 hR) (ex_0 ?_)))
    refine ex_ic3 (fun hc11 => ?_) (fun hc11 => by exfalso; omega)
    refine (ex_0 (ex_58 (ix_46 (S' := []) rfl (sh_208 hS) (c_must_f hS (MR_M hR).2.1 (MR_b hR)) rfl rfl (ex_6_0 (ix_41i (v := 1) (sh_208 hS) ((u2_k (by decide)).trans u2_e) (ex_if1 (fun _ => ?_) (fun hc => by exfalso; revert hc; decide)))))))
    exact ex_56 rfl
theorem c_part_bt {d : Nat} {G : am_G} {I : Nat → Nat → Int} {P : Nat → Nat → Option Nat} (hS : ST G P) {b : Nat → Int} {n : Nat} (hB : TB b n) {od : Bool} {s l c p op : Nat} (hR : MR I b n od s l c p op) (h91 : tk b n s = [91]) (hop : op < 8) : ∃ I1, am_call am_B am_M (d + 5) 216 [(.inr (.inr (some 208)))] (G, I, P) = some ((some (.inl 1)), (G, I1, P)) ∧ (MR I1 b n od (nx b n s) l c (p + 1) (op + 1) ∧ I1 221 p = 32 ∧ MFr c p I I1) := by
  have w : am_ex (am_call am_B am_M (d + 4)) (am_B 216) (am_B 216 0) [some (.inr (.inr (some 208))), none, none, none] [] (G, I, P) (fun o => ∃ I1, o = ((some (.inl 1)), (G, I1, P)) ∧ (MR I1 b n od (nx b n s) l c (p + 1) (op + 1) ∧ I1 221 p = 32 ∧ MFr c p I I1)) := by
    refine (ex_6_0 (ex_0 (ix_46 (S' := [(.inl 1)]) rfl (sh_208 hS) (c_isS_t hS hB (MR_M hR) (MR_s hR) (v := 91) (by decide) h91) rfl rfl (ex_if0 (fun hc => by exfalso; revert hc; decide) (fun _ => ?_)))))
    refine (ex_6_0 (ex_0 ?_))
    obtain ⟨I1, e1, r1, p1, f1⟩ := c_open_t (d := d) (ov := 32) hS hB hR (Or.inr rfl) hop (tk_lt (MR_s hR) h91)
    refine (ix_46 (S' := []) rfl (sh_208 hS) e1 rfl rfl (ex_0 ?_))
    exact ex_53 ⟨_, rfl, r1, p1, f1⟩
  obtain ⟨o, e, I1, rfl, h⟩ := am_doQ (as := [(.inr (.inr (some 208)))]) (Nat.le_of_ble_eq_true rfl) rfl w
  exact ⟨I1, e, h⟩
theorem c_part_bf {d : Nat} {G : am_G} {I : Nat → Nat → Int} {P : Nat → Nat → Option Nat} (hS : ST G P) {b : Nat → Int} {n : Nat} (hB : TB b n) {od : Bool} {s l c p op : Nat} (hR : MR I b n od s l c p op) (h91 : tk b n s = [91]) (hop : op = 8) : am_call am_B am_M (d + 5) 216 [(.inr (.inr (some 208)))] (G, I, P) = some (some (.inl 1), (G, am_u2 (am_u2 I 208 19 1) 208 18 (s : Int), P)) := by
  refine am_doL (L := [some (.inr (.inr (some 208))), none, none, none]) (Nat.le_of_ble_eq_true rfl) rfl ?_
  refine (ex_6_0 (ex_0 (ix_46 (S' := [(.inl 1)]) rfl (sh_208 hS) (c_isS_t hS hB (MR_M hR) (MR_s hR) (v := 91) (by decide) h91) rfl rfl (ex_if0 (fun hc => by exfalso; revert hc; decide) (fun _ => ?_)))))
  refine (ex_6_0 (ex_0 (ix_46 (S' := []) rfl (sh_208 hS) (c_open_f (d := d) hS hB hR hop) rfl rfl (ex_0 ?_))))
  exact ex_53 rfl
def px_leaf (b : Nat → Int) (n : Nat) (od : Bool) (s l : Nat) : Rs := if (num b n s = -1 ∧ wrd od (tk b n s) = -1) ∨ 1000 < num b n s ∨ 50 ≤ l then .inl s
  else if ¬ num b n s = -1 then .inr (nx b n s, l + 1, fun _ => some (num b n s))
  else px_word b n od s l
theorem px_part_n {b : Nat → Int} {n : Nat} {od : Bool} {S : Option (Nat → Nat → Rs)} {s l : Nat} (h : ¬ tk b n s = [91]) : px_part b n od S s l = px_leaf b n od s l := by unfold px_part px_leaf; rw [if_neg h]
def QL (G : am_G) (P : Nat → Nat → Option Nat) (b : Nat → Int) (n : Nat) (od : Bool) (I : Nat → Nat → Int) (c p op : Nat) (t : Int) (r : Rs) (o : am_O) : Prop := match r with
  | .inl x => ∃ I1, o = (some (.inl t), (G, I1, P)) ∧ BAD I1 x ∧ MFr c p I I1
  | .inr (s', l', f) => ∃ I1, o = (some (.inl t), (G, I1, P)) ∧ MR I1 b n od s' l' (c + 1) p op ∧ MS od (I1 219) (I1 220) c (c + 1) 1 f ∧ MFr c p I I1
theorem QL_inl {G : am_G} {P : Nat → Nat → Option Nat} {b : Nat → Int} {n : Nat} {od : Bool} {I I1 : Nat → Nat → Int} {c p op x : Nat} {t : Int} {r : Rs} (h : r = .inl x) (h1 : BAD I1 x) (h2 : MFr c p I I1) : QL G P b n od I c p op t r (some (.inl t), (G, I1, P)) := by
  subst h
  exact ⟨I1, rfl, h1, h2⟩
theorem QL_inr {G : am_G} {P : Nat → Nat → Option Nat} {b : Nat → Int} {n : Nat} {od : Bool} {I I1 : Nat → Nat → Int} {c p op s' l' : Nat} {f : Fn} {t : Int} {r : Rs} (h : r = .inr (s', l', f)) (h1 : MR I1 b n od s' l' (c + 1) p op) (h2 : MS od (I1 219) (I1 220) c (c + 1) 1 f) (h3 : MFr c p I I1) : QL G P b n od I c p op t r (some (.inl t), (G, I1, P)) := by
  subst h
  exact ⟨I1, rfl, h1, h2, h3⟩
theorem c_its_o {d : Nat} {G : am_G} {I : Nat → Nat → Int} {P : Nat → Nat → Option Nat} (hS : ST G P) {b : Nat → Int} {n : Nat} (hB : TB b n) {od : Bool} {s l c p op : Nat} (hR : MR I b n od s l c p op) {v : Int} (h : wat OWs (tk b n s) = v) : am_call am_B am_M (d + 2) 213 [.inr (.inr (some 208))] (G, I, P) = some (some (.inl v), (G, I, P)) := h ▸ c_orderAt hS hB (MR_M hR) (MR_s hR) (MR_K hR).2.1
theorem c_its_l {d : Nat} {G : am_G} {I : Nat → Nat → Int} {P : Nat → Nat → Option Nat} (hS : ST G P) {b : Nat → Int} {n : Nat} (hB : TB b n) {od : Bool} {s l c p op : Nat} (hR : MR I b n od s l c p op) {v : Int} (h : wat LWs (tk b n s) = v) : am_call am_B am_M (d + 2) 212 [.inr (.inr (some 208))] (G, I, P) = some (some (.inl v), (G, I, P)) := h ▸ c_partAt hS hB (MR_M hR) (MR_s hR) (MR_K hR).1
theorem wrd_numo {b : Nat → Int} {n : Nat} {s : Nat} (hs : s ≤ n) {od : Bool} (hod : od = true) : num b n s = -1 ∨ wrd od (tk b n s) = -1 := by
  have hwe : wrd od (tk b n s) = ooI OWs 0 (tk b n s) := by rw [hod]; rfl
  have hnw := num_wo (b := b) hs
  apply Classical.byContradiction
  intro zz
  have z1 := not_or.mp zz
  have z2 : ms b n s = 2 := hnw.1.mpr z1.1
  have z3 := ooI_some (t := tk b n s) OWs 0 (fun e => z1.2 (hwe.trans e))
  have hL : ∀ w, w ∈ OWs → (w.all fun c => decide (97 ≤ c ∧ c ≤ 122)) = true := by decide
  have hL1 : ∀ w, w ∈ OWs → 0 < w.length := by decide
  have hL2 : ∀ w, w ∈ OWs → w.length ≤ 10 := by decide
  have := ((word_iff hs (kw := tk b n s) (lets_of (hL _ z3)) (hL1 _ z3) (hL2 _ z3)).mpr rfl).1
  omega
theorem cl_co {d : Nat} {G : am_G} {I : Nat → Nat → Int} {P : Nat → Nat → Option Nat} (hS : ST G P) {b : Nat → Int} {n : Nat} (hB : TB b n) {od : Bool} {s l c p op : Nat} (hR : MR I b n od s l c p op) (h91 : ¬ tk b n s = [91]) (hod : od = true) (hq : (num b n s = -1 ∧ wrd od (tk b n s) = -1) ∨ 1000 < num b n s ∨ 50 ≤ l) (h1 : wrd od (tk b n s) = -1) (h2 : ms b n s = 2 → 1000 < wo b n s) : ∃ o, am_call am_B am_M (d + 5) 216 [(.inr (.inr (some 208)))] (G, I, P) = some o ∧ QL G P b n od I c p op 3 (px_leaf b n od s l) o := by
  have hn4 := hB.1
  have hs := MR_s hR
  have hcp := MR_cp hR
  have hwe : wrd od (tk b n s) = ooI OWs 0 (tk b n s) := by rw [hod]; rfl
  have hnw := num_wo (b := b) hs
  have hnb := num_b (b := b) hs
  have hwat : wat OWs (tk b n s) = if wrd od (tk b n s) = -1 then -1 else wrd od (tk b n s) + 1 := by rw [hwe]; rfl
  refine am_doQ (L := [some (.inr (.inr (some 208))), none, none, none]) (Nat.le_of_ble_eq_true rfl) rfl ?_
  refine (ex_6_0 (ex_0 (ix_46 (S' := [(.inl 0)]) rfl (sh_208 hS) (c_isS_f hS hB (MR_M hR) (MR_s hR) (v := 91) (by decide) h91) rfl rfl (ex_if0 (fun _ => ?_) (fun hc => by exfalso; revert hc; decide)))))
  refine (ex_6_0 (ix_41i (v := 1) (sh_208 hS) ((MR_o hR).trans (by rw [hod]; rfl)) (ex_if0 (fun hc => by exfalso; revert hc; decide) (fun _ => ?_))))
  refine (ex_6_0 (ix_46 (S' := [(.inl (-1))]) rfl (sh_208 hS) (c_its_o (d := d + 2) hS hB hR (v := -1) (hwat.trans (if_pos h1))) rfl rfl (ex_28 (ex_7_1 rfl (ex_6_0 (ix_41i (v := (ms b n s)) (sh_208 hS) (MR_M hR).2.2.2.1 (ex_0 ?_)))))))
  refine ex_ic1 (fun hc41 => ?_) (fun hc41 => ?_)
  · refine (ex_0 (ex_58 (ex_7_2 rfl (ex_6_0 (ex_4_1 (ex_0 (ex_ic1 (fun hc => by exfalso; revert hc; decide) (fun _ => ?_))))))))
    refine (ex_4_2 (ex_if0 (fun _ => ?_) (fun hc => by exfalso; revert hc; decide)))
    refine (ex_0 (ex_58 (ex_4_1 (ex_0 (ex_ic1 (fun hc => by exfalso; revert hc; decide) (fun _ => ?_))))))
    refine (ex_0 (ex_28 (ex_4_2 (ex_if0 (fun _ => ?_) (fun hc => by exfalso; revert hc; decide)))))
    refine (ex_0 (ex_58 (ix_46 (S' := []) rfl (sh_208 hS) (c_leaf_0 (d := d) hS hB hR) rfl rfl (ex_6_0 (ix_41i (v := 1) (sh_208 hS) ((u2_k (by decide)).trans ((u2_k (by decide)).trans ((MR_o hR).trans (by rw [hod]; rfl)))) (ex_if0 (fun hc => by exfalso; revert hc; decide) (fun _ => ?_)))))))
    refine (ex_4_1 (ex_0 (ex_ic2 (fun _ => ?_) (fun hc => by exfalso; revert hc; decide))))
    refine (ex_0 ?_)
    exact ex_53 (QL_inl (by unfold px_leaf; rw [if_pos hq]) (MR_bad hR) MFr_bad)
  · refine (ex_6_0 (ix_41l (v := (wo b n s)) (sh_208 hS) (MR_M hR).2.2.2.2.1 (ex_1 ?_)))
    refine ex_lc4 (fun hc52 => ?_) (fun hc52 => by exfalso; omega)
    refine (ex_0 (ex_58 (ex_7_2 rfl (ex_6_0 (ex_4_1 (ex_0 (ex_ic1 (fun hc => by exfalso; revert hc; decide) (fun _ => ?_))))))))
    refine (ex_4_2 (ex_if0 (fun _ => ?_) (fun hc => by exfalso; revert hc; decide)))
    refine (ex_0 (ex_58 (ex_4_1 (ex_0 (ex_ic1 (fun hc => by exfalso; revert hc; decide) (fun _ => ?_))))))
    refine (ex_0 (ex_28 (ex_4_2 (ex_if0 (fun _ => ?_) (fun hc => by exfalso; revert hc; decide)))))
    refine (ex_0 (ex_58 (ix_46 (S' := []) rfl (sh_208 hS) (c_leaf_0 (d := d) hS hB hR) rfl rfl (ex_6_0 (ix_41i (v := 1) (sh_208 hS) ((u2_k (by decide)).trans ((u2_k (by decide)).trans ((MR_o hR).trans (by rw [hod]; rfl)))) (ex_if0 (fun hc => by exfalso; revert hc; decide) (fun _ => ?_)))))))
    refine (ex_4_1 (ex_0 (ex_ic2 (fun _ => ?_) (fun hc => by exfalso; revert hc; decide))))
    refine (ex_0 ?_)
    exact ex_53 (QL_inl (by unfold px_leaf; rw [if_pos hq]) (MR_bad hR) MFr_bad)
theorem cl_bfo {d : Nat} {G : am_G} {I : Nat → Nat → Int} {P : Nat → Nat → Option Nat} (hS : ST G P) {b : Nat → Int} {n : Nat} (hB : TB b n) {od : Bool} {s l c p op : Nat} (hR : MR I b n od s l c p op) (h91 : ¬ tk b n s = [91]) (hod : od = true) (hq : (num b n s = -1 ∧ wrd od (tk b n s) = -1) ∨ 1000 < num b n s ∨ 50 ≤ l) (h1 : wrd od (tk b n s) = -1) (h2 : ms b n s = 2) (h3 : wo b n s ≤ 1000) (hl : ¬ l < 50) : ∃ o, am_call am_B am_M (d + 5) 216 [(.inr (.inr (some 208)))] (G, I, P) = some o ∧ QL G P b n od I c p op 3 (px_leaf b n od s l) o := by
  have hn4 := hB.1
  have hs := MR_s hR
  have hcp := MR_cp hR
  have hwe : wrd od (tk b n s) = ooI OWs 0 (tk b n s) := by rw [hod]; rfl
  have hnw := num_wo (b := b) hs
  have hnb := num_b (b := b) hs
  have hwat : wat OWs (tk b n s) = if wrd od (tk b n s) = -1 then -1 else wrd od (tk b n s) + 1 := by rw [hwe]; rfl
  have hw2 := hnw.2 h2
  refine am_doQ (L := [some (.inr (.inr (some 208))), none, none, none]) (Nat.le_of_ble_eq_true rfl) rfl ?_
  refine (ex_6_0 (ex_0 (ix_46 (S' := [(.inl 0)]) rfl (sh_208 hS) (c_isS_f hS hB (MR_M hR) (MR_s hR) (v := 91) (by decide) h91) rfl rfl (ex_if0 (fun _ => ?_) (fun hc => by exfalso; revert hc; decide)))))
  refine (ex_6_0 (ix_41i (v := 1) (sh_208 hS) ((MR_o hR).trans (by rw [hod]; rfl)) (ex_if0 (fun hc => by exfalso; revert hc; decide) (fun _ => ?_))))
  refine (ex_6_0 (ix_46 (S' := [(.inl (-1))]) rfl (sh_208 hS) (c_its_o (d := d + 2) hS hB hR (v := -1) (hwat.trans (if_pos h1))) rfl rfl (ex_28 (ex_7_1 rfl (ex_6_0 (ix_41i (v := (ms b n s)) (sh_208 hS) (MR_M hR).2.2.2.1 (ex_0 ?_)))))))
  refine ex_ic1 (fun hc41 => by exfalso; omega) (fun hc41 => ?_)
  refine (ex_6_0 (ix_41l (v := (wo b n s)) (sh_208 hS) (MR_M hR).2.2.2.2.1 (ex_1 ?_)))
  refine ex_lc4 (fun hc52 => by exfalso; omega) (fun hc52 => ?_)
  refine (ex_0 (ex_28 (ex_7_2 rfl (ex_6_0 (ex_4_1 (ex_0 (ex_ic1 (fun hc => by exfalso; revert hc; decide) (fun _ => ?_))))))))
  refine (ex_4_2 (ex_if0 (fun hc => by exfalso; revert hc; decide) (fun _ => ?_)))
  refine (ex_0 (ex_28 (ex_4_1 (ex_0 (ex_ic1 (fun hc => by exfalso; revert hc; decide) (fun _ => ?_))))))
  refine (ex_0 (ex_28 (ex_4_2 (ex_if0 (fun hc => by exfalso; revert hc; decide) (fun _ => ?_)))))
  refine (ex_6_0 (ix_41l (v := (wo b n s)) (sh_208 hS) (MR_M hR).2.2.2.2.1 (ex_20 ⟨by omega, by omega⟩ (ex_28 (ix_46 (S' := []) rfl (sh_208 hS) (c_leaf_f (d := d) hS hB hR (by omega)) rfl rfl (ex_6_0 (ix_41i (v := 1) (sh_208 hS) ((u2_k (by decide)).trans ((u2_k (by decide)).trans ((MR_o hR).trans (by rw [hod]; rfl)))) (ex_if0 (fun hc => by exfalso; revert hc; decide) (fun _ => ?_)))))))))
  refine (ex_4_1 (ex_0 (ex_ic2 (fun _ => ?_) (fun hc => by exfalso; revert hc; decide))))
  refine (ex_0 ?_)
  exact ex_53 (QL_inl (by unfold px_leaf; rw [if_pos hq]) (MR_bad hR) MFr_bad)
theorem cl_bo {d : Nat} {G : am_G} {I : Nat → Nat → Int} {P : Nat → Nat → Option Nat} (hS : ST G P) {b : Nat → Int} {n : Nat} (hB : TB b n) {od : Bool} {s l c p op : Nat} (hR : MR I b n od s l c p op) (h91 : ¬ tk b n s = [91]) (hod : od = true) (hq : ¬ ((num b n s = -1 ∧ wrd od (tk b n s) = -1) ∨ 1000 < num b n s ∨ 50 ≤ l)) (h1 : wrd od (tk b n s) = -1) (h2 : ms b n s = 2) (h3 : wo b n s ≤ 1000) : ∃ o, am_call am_B am_M (d + 5) 216 [(.inr (.inr (some 208)))] (G, I, P) = some o ∧ QL G P b n od I c p op 3 (px_leaf b n od s l) o := by
  have hn4 := hB.1
  have hs := MR_s hR
  have hcp := MR_cp hR
  have hwe : wrd od (tk b n s) = ooI OWs 0 (tk b n s) := by rw [hod]; rfl
  have hnw := num_wo (b := b) hs
  have hnb := num_b (b := b) hs
  have hwat : wat OWs (tk b n s) = if wrd od (tk b n s) = -1 then -1 else wrd od (tk b n s) + 1 := by rw [hwe]; rfl
  have hw2 := hnw.2 h2
  have hlt := num_lt (b := b) hs (hnw.1.mp h2)
  refine am_doQ (L := [some (.inr (.inr (some 208))), none, none, none]) (Nat.le_of_ble_eq_true rfl) rfl ?_
  refine (ex_6_0 (ex_0 (ix_46 (S' := [(.inl 0)]) rfl (sh_208 hS) (c_isS_f hS hB (MR_M hR) (MR_s hR) (v := 91) (by decide) h91) rfl rfl (ex_if0 (fun _ => ?_) (fun hc => by exfalso; revert hc; decide)))))
  refine (ex_6_0 (ix_41i (v := 1) (sh_208 hS) ((MR_o hR).trans (by rw [hod]; rfl)) (ex_if0 (fun hc => by exfalso; revert hc; decide) (fun _ => ?_))))
  refine (ex_6_0 (ix_46 (S' := [(.inl (-1))]) rfl (sh_208 hS) (c_its_o (d := d + 2) hS hB hR (v := -1) (hwat.trans (if_pos h1))) rfl rfl (ex_28 (ex_7_1 rfl (ex_6_0 (ix_41i (v := (ms b n s)) (sh_208 hS) (MR_M hR).2.2.2.1 (ex_0 ?_)))))))
  refine ex_ic1 (fun hc41 => by exfalso; omega) (fun hc41 => ?_)
  refine (ex_6_0 (ix_41l (v := (wo b n s)) (sh_208 hS) (MR_M hR).2.2.2.2.1 (ex_1 ?_)))
  refine ex_lc4 (fun hc52 => by exfalso; omega) (fun hc52 => ?_)
  refine (ex_0 (ex_28 (ex_7_2 rfl (ex_6_0 (ex_4_1 (ex_0 (ex_ic1 (fun hc => by exfalso; revert hc; decide) (fun _ => ?_))))))))
  refine (ex_4_2 (ex_if0 (fun hc => by exfalso; revert hc; decide) (fun _ => ?_)))
  refine (ex_0 (ex_28 (ex_4_1 (ex_0 (ex_ic1 (fun hc => by exfalso; revert hc; decide) (fun _ => ?_))))))
  refine (ex_0 (ex_28 (ex_4_2 (ex_if0 (fun hc => by exfalso; revert hc; decide) (fun _ => ?_)))))
  refine (ex_6_0 (ix_41l (v := (wo b n s)) (sh_208 hS) (MR_M hR).2.2.2.2.1 (ex_20 ⟨by omega, by omega⟩ (ex_28 ?_))))
  obtain ⟨I1, e1, r1, o1, a1, f1⟩ := c_leaf_t (d := d) (ov := 0) (av := (wo b n s)) hS hB hR (by omega) hlt
  refine (ix_46 (S' := []) rfl (sh_208 hS) e1 rfl rfl (ex_6_0 (ix_41i (v := 1) (sh_208 hS) ((MR_o r1).trans (by rw [hod]; rfl)) (ex_if0 (fun hc => by exfalso; revert hc; decide) (fun _ => ?_)))))
  refine (ex_4_1 (ex_0 (ex_ic2 (fun _ => ?_) (fun hc => by exfalso; revert hc; decide))))
  refine (ex_0 ?_)
  exact ex_53 (QL_inr (by unfold px_leaf; rw [if_neg hq, if_pos (hnw.1.mp h2)]) r1 (by have hh := MS_num (od := od) o1 a1 ⟨by omega, by omega⟩; rw [show wo b n s = num b n s by omega] at hh; exact hh) f1)
theorem cl_afo {d : Nat} {G : am_G} {I : Nat → Nat → Int} {P : Nat → Nat → Option Nat} (hS : ST G P) {b : Nat → Int} {n : Nat} (hB : TB b n) {od : Bool} {s l c p op : Nat} (hR : MR I b n od s l c p op) (h91 : ¬ tk b n s = [91]) (hod : od = true) (hq : (num b n s = -1 ∧ wrd od (tk b n s) = -1) ∨ 1000 < num b n s ∨ 50 ≤ l) {j : Nat} (hj : wrd od (tk b n s) = (j : Int)) (h2 : ¬ ms b n s = 2) (hnu : num b n s = -1) (hl : ¬ l < 50) : ∃ o, am_call am_B am_M (d + 5) 216 [(.inr (.inr (some 208)))] (G, I, P) = some o ∧ QL G P b n od I c p op 3 (px_leaf b n od s l) o := by
  have hn4 := hB.1
  have hs := MR_s hR
  have hcp := MR_cp hR
  have hwe : wrd od (tk b n s) = ooI OWs 0 (tk b n s) := by rw [hod]; rfl
  have hnw := num_wo (b := b) hs
  have hnb := num_b (b := b) hs
  have hwat : wat OWs (tk b n s) = if wrd od (tk b n s) = -1 then -1 else wrd od (tk b n s) + 1 := by rw [hwe]; rfl
  have hjm : ¬ wrd od (tk b n s) = -1 := by omega
  have hlt := wrd_lt (b := b) (od := od) hs hjm
  have hnx := nx_2 (b := b) s hlt
  have hrng := ooI_rng (t := tk b n s) OWs 0
  have hln : OWs.length = 7 := rfl
  rw [← hwe, hln] at hrng
  refine am_doQ (L := [some (.inr (.inr (some 208))), none, none, none]) (Nat.le_of_ble_eq_true rfl) rfl ?_
  refine (ex_6_0 (ex_0 (ix_46 (S' := [(.inl 0)]) rfl (sh_208 hS) (c_isS_f hS hB (MR_M hR) (MR_s hR) (v := 91) (by decide) h91) rfl rfl (ex_if0 (fun _ => ?_) (fun hc => by exfalso; revert hc; decide)))))
  refine (ex_6_0 (ix_41i (v := 1) (sh_208 hS) ((MR_o hR).trans (by rw [hod]; rfl)) (ex_if0 (fun hc => by exfalso; revert hc; decide) (fun _ => ?_))))
  refine (ex_6_0 (ix_46 (S' := [(.inl ((j : Int) + 1))]) rfl (sh_208 hS) (c_its_o (d := d + 2) hS hB hR (v := ((j : Int) + 1)) (hwat.trans ((if_neg hjm).trans (by rw [hj])))) rfl rfl (ex_28 (ex_7_1 rfl (ex_6_0 (ix_41i (v := (ms b n s)) (sh_208 hS) (MR_M hR).2.2.2.1 (ex_0 ?_)))))))
  refine ex_ic1 (fun hc41 => ?_) (fun hc41 => by exfalso; omega)
  refine (ex_0 (ex_58 (ex_7_2 rfl (ex_6_0 (ex_4_1 (ex_0 ?_))))))
  refine ex_ic1 (fun hc64 => ?_) (fun hc64 => by exfalso; omega)
  refine (ex_0 (ex_28 (ex_4_1 (ex_0 ?_))))
  refine ex_ic1 (fun hc78 => ?_) (fun hc78 => by exfalso; omega)
  refine (ex_4_1 (ex_58 (ex_4_2 (ex_if0 (fun _ => ?_) (fun hc => by exfalso; revert hc; decide)))))
  refine (ex_0 (ex_58 (ix_46 (S' := []) rfl (sh_208 hS) (c_leaf_f (d := d) hS hB hR (by omega)) rfl rfl (ex_6_0 (ix_41i (v := 1) (sh_208 hS) ((u2_k (by decide)).trans ((u2_k (by decide)).trans ((MR_o hR).trans (by rw [hod]; rfl)))) (ex_if0 (fun hc => by exfalso; revert hc; decide) (fun _ => ?_)))))))
  refine (ex_4_1 (ex_0 ?_))
  refine ex_ic2 (fun hc112 => ?_) (fun hc112 => ?_)
  · refine (ex_0 ?_)
    exact ex_53 (QL_inl (by unfold px_leaf; rw [if_pos hq]) (MR_bad hR) MFr_bad)
  · refine (ex_6_0 (ix_41i (v := 1) (sh_208 hS) ((u2_k (by decide)).trans u2_e) (ex_if1 (fun _ => ?_) (fun hc => by exfalso; revert hc; decide))))
    refine (ex_0 ?_)
    exact ex_53 (QL_inl (by unfold px_leaf; rw [if_pos hq]) (MR_bad hR) MFr_bad)
theorem cl_ao {d : Nat} {G : am_G} {I : Nat → Nat → Int} {P : Nat → Nat → Option Nat} (hS : ST G P) {b : Nat → Int} {n : Nat} (hB : TB b n) {od : Bool} {s l c p op : Nat} (hR : MR I b n od s l c p op) (h91 : ¬ tk b n s = [91]) (hod : od = true) (hq : ¬ ((num b n s = -1 ∧ wrd od (tk b n s) = -1) ∨ 1000 < num b n s ∨ 50 ≤ l)) {j : Nat} (hj : wrd od (tk b n s) = (j : Int)) (h2 : ¬ ms b n s = 2) (hnu : num b n s = -1) (hj5 : j < 5) : ∃ o, am_call am_B am_M (d + 5) 216 [(.inr (.inr (some 208)))] (G, I, P) = some o ∧ QL G P b n od I c p op 3 (px_leaf b n od s l) o := by
  have hn4 := hB.1
  have hs := MR_s hR
  have hcp := MR_cp hR
  have hwe : wrd od (tk b n s) = ooI OWs 0 (tk b n s) := by rw [hod]; rfl
  have hnw := num_wo (b := b) hs
  have hnb := num_b (b := b) hs
  have hwat : wat OWs (tk b n s) = if wrd od (tk b n s) = -1 then -1 else wrd od (tk b n s) + 1 := by rw [hwe]; rfl
  have hjm : ¬ wrd od (tk b n s) = -1 := by omega
  have hlt := wrd_lt (b := b) (od := od) hs hjm
  have hnx := nx_2 (b := b) s hlt
  have hrng := ooI_rng (t := tk b n s) OWs 0
  have hln : OWs.length = 7 := rfl
  rw [← hwe, hln] at hrng
  refine am_doQ (L := [some (.inr (.inr (some 208))), none, none, none]) (Nat.le_of_ble_eq_true rfl) rfl ?_
  refine (ex_6_0 (ex_0 (ix_46 (S' := [(.inl 0)]) rfl (sh_208 hS) (c_isS_f hS hB (MR_M hR) (MR_s hR) (v := 91) (by decide) h91) rfl rfl (ex_if0 (fun _ => ?_) (fun hc => by exfalso; revert hc; decide)))))
  refine (ex_6_0 (ix_41i (v := 1) (sh_208 hS) ((MR_o hR).trans (by rw [hod]; rfl)) (ex_if0 (fun hc => by exfalso; revert hc; decide) (fun _ => ?_))))
  refine (ex_6_0 (ix_46 (S' := [(.inl ((j : Int) + 1))]) rfl (sh_208 hS) (c_its_o (d := d + 2) hS hB hR (v := ((j : Int) + 1)) (hwat.trans ((if_neg hjm).trans (by rw [hj])))) rfl rfl (ex_28 (ex_7_1 rfl (ex_6_0 (ix_41i (v := (ms b n s)) (sh_208 hS) (MR_M hR).2.2.2.1 (ex_0 ?_)))))))
  refine ex_ic1 (fun hc41 => ?_) (fun hc41 => by exfalso; omega)
  refine (ex_0 (ex_58 (ex_7_2 rfl (ex_6_0 (ex_4_1 (ex_0 ?_))))))
  refine ex_ic1 (fun hc64 => ?_) (fun hc64 => by exfalso; omega)
  refine (ex_0 (ex_28 (ex_4_1 (ex_0 ?_))))
  refine ex_ic1 (fun hc78 => ?_) (fun hc78 => by exfalso; omega)
  refine (ex_4_1 (ex_58 (ex_4_2 (ex_if0 (fun _ => ?_) (fun hc => by exfalso; revert hc; decide)))))
  refine (ex_0 (ex_58 ?_))
  obtain ⟨I1, e1, r1, o1, a1, f1⟩ := c_leaf_t (d := d) (ov := ((j : Int) + 1)) (av := 0) hS hB hR (by omega) hlt
  refine (ix_46 (S' := []) rfl (sh_208 hS) e1 rfl rfl (ex_6_0 (ix_41i (v := 1) (sh_208 hS) ((MR_o r1).trans (by rw [hod]; rfl)) (ex_if0 (fun hc => by exfalso; revert hc; decide) (fun _ => ?_)))))
  refine (ex_4_1 (ex_0 ?_))
  refine ex_ic2 (fun hc112 => ?_) (fun hc112 => by exfalso; omega)
  refine (ex_0 ?_)
  exact ex_53 (QL_inr (by unfold px_leaf px_word; rw [if_neg hq, if_neg (fun zz => zz hnu), if_neg (fun zz => by omega), if_neg (fun zz => by omega), hj, Int.toNat_natCast]) r1 (by subst hod; exact MS_wO o1 (by omega)) f1)
theorem cl_at_t {d : Nat} {G : am_G} {I : Nat → Nat → Int} {P : Nat → Nat → Option Nat} (hS : ST G P) {b : Nat → Int} {n : Nat} (hB : TB b n) {od : Bool} {s l c p op : Nat} (hR : MR I b n od s l c p op) (h91 : ¬ tk b n s = [91]) (hod : od = true) (hq : ¬ ((num b n s = -1 ∧ wrd od (tk b n s) = -1) ∨ 1000 < num b n s ∨ 50 ≤ l)) {j : Nat} (hj : wrd od (tk b n s) = (j : Int)) (h2 : ¬ ms b n s = 2) (hnu : num b n s = -1) (hj5 : j = 5) (hm2 : ms b n (nx b n s) = 2) (hw2 : 0 ≤ wo b n (nx b n s) ∧ wo b n (nx b n s) ≤ 5) : ∃ o, am_call am_B am_M (d + 5) 216 [(.inr (.inr (some 208)))] (G, I, P) = some o ∧ QL G P b n od I c p op 3 (px_leaf b n od s l) o := by
  have hn4 := hB.1
  have hs := MR_s hR
  have hcp := MR_cp hR
  have hwe : wrd od (tk b n s) = ooI OWs 0 (tk b n s) := by rw [hod]; rfl
  have hnw := num_wo (b := b) hs
  have hnb := num_b (b := b) hs
  have hwat : wat OWs (tk b n s) = if wrd od (tk b n s) = -1 then -1 else wrd od (tk b n s) + 1 := by rw [hwe]; rfl
  have hjm : ¬ wrd od (tk b n s) = -1 := by omega
  have hlt := wrd_lt (b := b) (od := od) hs hjm
  have hnx := nx_2 (b := b) s hlt
  have hrng := ooI_rng (t := tk b n s) OWs 0
  have hln : OWs.length = 7 := rfl
  rw [← hwe, hln] at hrng
  have hnw2 := num_wo (b := b) hnx.2
  have hq2 := hnw2.2 hm2
  have hlt2 := num_lt (b := b) hnx.2 (hnw2.1.mp hm2)
  refine am_doQ (L := [some (.inr (.inr (some 208))), none, none, none]) (Nat.le_of_ble_eq_true rfl) rfl ?_
  refine (ex_6_0 (ex_0 (ix_46 (S' := [(.inl 0)]) rfl (sh_208 hS) (c_isS_f hS hB (MR_M hR) (MR_s hR) (v := 91) (by decide) h91) rfl rfl (ex_if0 (fun _ => ?_) (fun hc => by exfalso; revert hc; decide)))))
  refine (ex_6_0 (ix_41i (v := 1) (sh_208 hS) ((MR_o hR).trans (by rw [hod]; rfl)) (ex_if0 (fun hc => by exfalso; revert hc; decide) (fun _ => ?_))))
  refine (ex_6_0 (ix_46 (S' := [(.inl ((j : Int) + 1))]) rfl (sh_208 hS) (c_its_o (d := d + 2) hS hB hR (v := ((j : Int) + 1)) (hwat.trans ((if_neg hjm).trans (by rw [hj])))) rfl rfl (ex_28 (ex_7_1 rfl (ex_6_0 (ix_41i (v := (ms b n s)) (sh_208 hS) (MR_M hR).2.2.2.1 (ex_0 ?_)))))))
  refine ex_ic1 (fun hc41 => ?_) (fun hc41 => by exfalso; omega)
  refine (ex_0 (ex_58 (ex_7_2 rfl (ex_6_0 (ex_4_1 (ex_0 ?_))))))
  refine ex_ic1 (fun hc64 => ?_) (fun hc64 => by exfalso; omega)
  refine (ex_0 (ex_28 (ex_4_1 (ex_0 ?_))))
  refine ex_ic1 (fun hc78 => ?_) (fun hc78 => by exfalso; omega)
  refine (ex_4_1 (ex_58 (ex_4_2 (ex_if0 (fun _ => ?_) (fun hc => by exfalso; revert hc; decide)))))
  refine (ex_0 (ex_58 ?_))
  obtain ⟨I1, e1, r1, o1, a1, f1⟩ := c_leaf_t (d := d) (ov := ((j : Int) + 1)) (av := 0) hS hB hR (by omega) hlt
  refine (ix_46 (S' := []) rfl (sh_208 hS) e1 rfl rfl (ex_6_0 (ix_41i (v := 1) (sh_208 hS) ((MR_o r1).trans (by rw [hod]; rfl)) (ex_if0 (fun hc => by exfalso; revert hc; decide) (fun _ => ?_)))))
  refine (ex_4_1 (ex_0 ?_))
  refine ex_ic2 (fun hc112 => by exfalso; omega) (fun hc112 => ?_)
  refine (ex_6_0 (ix_41i (v := 0) (sh_208 hS) (MR_b r1) (ex_if1 (fun hc => by exfalso; revert hc; decide) (fun _ => ?_))))
  refine (ex_6_0 (ix_41i (v := ((c + 1 : Nat) : Int)) (sh_208 hS) (MR_P r1).1 (ex_0 (ex_11e (v := (c : Int)) ((am_sub ⟨by omega, by omega⟩).trans (by omega)) (ex_7_3 rfl (ex_6_0 (ix_41r (sh_208 hS) (pt_208_25 hS) (ex_4_3 (ex_6_0 (ex_1 (ex_4_1 (ex_0 ?_))))))))))))
  refine ex_ic1 (fun hc139 => by exfalso; omega) (fun hc139 => ?_)
  refine (ex_1 (ex_28 ?_))
  obtain ⟨I2, e2, m2, f2⟩ := c_number_t (d := d) (lo := 0) (hi := 5) hS hB (MR_M r1) (MR_s r1) (MR_b r1) hm2 hw2
  have r2 := MR_next r1 hlt2 m2 f2
  refine (ix_46 (S' := [(.inl (wo b n (nx b n s))), (.inl (c : Int)), (.inr (.inr (some 220)))]) rfl (sh_208 hS) e2 rfl rfl (ix_34 (j := c) (sh_220 hS) (by omega) (by omega) (by omega) (ex_58 (ex_0 ?_))))
  exact ex_53 (QL_inr (l' := l + 1) (by unfold px_leaf px_word; rw [if_neg hq, if_neg (fun zz => zz hnu), if_pos ⟨hod, by omega⟩]; unfold px_which; rw [if_pos ⟨by omega, by omega⟩]) (MR_arg r2 (by omega)) (by have hh := MS_at (O := (am_u2 I2 220 c (wo b n (nx b n s))) 219) (A := (am_u2 I2 220 c (wo b n (nx b n s))) 220) (a := c) (j := (wo b n (nx b n s)).toNat) ((u2_q (by decide)).trans ((f2 _ _ (by omega)).trans (o1.trans (by omega)))) (u2_e.trans (by omega)) (by omega); rw [show (wo b n (nx b n s)).toNat = (num b n (nx b n s)).toNat by omega] at hh; subst hod; exact hh) (MFr_trans f1 (MFr_trans (MFr_MK f2) (fun q k y1 y2 y3 => u2_o (by omega)) (Nat.le_refl _) (Nat.le_refl _)) (Nat.le_refl _) (Nat.le_refl _)))
theorem cl_at_f {d : Nat} {G : am_G} {I : Nat → Nat → Int} {P : Nat → Nat → Option Nat} (hS : ST G P) {b : Nat → Int} {n : Nat} (hB : TB b n) {od : Bool} {s l c p op : Nat} (hR : MR I b n od s l c p op) (h91 : ¬ tk b n s = [91]) (hod : od = true) (hq : ¬ ((num b n s = -1 ∧ wrd od (tk b n s) = -1) ∨ 1000 < num b n s ∨ 50 ≤ l)) {j : Nat} (hj : wrd od (tk b n s) = (j : Int)) (h2 : ¬ ms b n s = 2) (hnu : num b n s = -1) (hj5 : j = 5) (hw2 : ¬ (0 ≤ num b n (nx b n s) ∧ num b n (nx b n s) < 6)) : ∃ o, am_call am_B am_M (d + 5) 216 [(.inr (.inr (some 208)))] (G, I, P) = some o ∧ QL G P b n od I c p op 3 (px_leaf b n od s l) o := by
  have hn4 := hB.1
  have hs := MR_s hR
  have hcp := MR_cp hR
  have hwe : wrd od (tk b n s) = ooI OWs 0 (tk b n s) := by rw [hod]; rfl
  have hnw := num_wo (b := b) hs
  have hnb := num_b (b := b) hs
  have hwat : wat OWs (tk b n s) = if wrd od (tk b n s) = -1 then -1 else wrd od (tk b n s) + 1 := by rw [hwe]; rfl
  have hjm : ¬ wrd od (tk b n s) = -1 := by omega
  have hlt := wrd_lt (b := b) (od := od) hs hjm
  have hnx := nx_2 (b := b) s hlt
  have hrng := ooI_rng (t := tk b n s) OWs 0
  have hln : OWs.length = 7 := rfl
  rw [← hwe, hln] at hrng
  have hnw2 := num_wo (b := b) hnx.2
  have hnf : ¬ (ms b n (nx b n s) = 2 ∧ 0 ≤ wo b n (nx b n s) ∧ wo b n (nx b n s) ≤ 5) := fun zz => by have hq2 := hnw2.2 zz.1; omega
  refine am_doQ (L := [some (.inr (.inr (some 208))), none, none, none]) (Nat.le_of_ble_eq_true rfl) rfl ?_
  refine (ex_6_0 (ex_0 (ix_46 (S' := [(.inl 0)]) rfl (sh_208 hS) (c_isS_f hS hB (MR_M hR) (MR_s hR) (v := 91) (by decide) h91) rfl rfl (ex_if0 (fun _ => ?_) (fun hc => by exfalso; revert hc; decide)))))
  refine (ex_6_0 (ix_41i (v := 1) (sh_208 hS) ((MR_o hR).trans (by rw [hod]; rfl)) (ex_if0 (fun hc => by exfalso; revert hc; decide) (fun _ => ?_))))
  refine (ex_6_0 (ix_46 (S' := [(.inl ((j : Int) + 1))]) rfl (sh_208 hS) (c_its_o (d := d + 2) hS hB hR (v := ((j : Int) + 1)) (hwat.trans ((if_neg hjm).trans (by rw [hj])))) rfl rfl (ex_28 (ex_7_1 rfl (ex_6_0 (ix_41i (v := (ms b n s)) (sh_208 hS) (MR_M hR).2.2.2.1 (ex_0 ?_)))))))
  refine ex_ic1 (fun hc41 => ?_) (fun hc41 => by exfalso; omega)
  refine (ex_0 (ex_58 (ex_7_2 rfl (ex_6_0 (ex_4_1 (ex_0 ?_))))))
  refine ex_ic1 (fun hc64 => ?_) (fun hc64 => by exfalso; omega)
  refine (ex_0 (ex_28 (ex_4_1 (ex_0 ?_))))
  refine ex_ic1 (fun hc78 => ?_) (fun hc78 => by exfalso; omega)
  refine (ex_4_1 (ex_58 (ex_4_2 (ex_if0 (fun _ => ?_) (fun hc => by exfalso; revert hc; decide)))))
  refine (ex_0 (ex_58 ?_))
  obtain ⟨I1, e1, r1, o1, a1, f1⟩ := c_leaf_t (d := d) (ov := ((j : Int) + 1)) (av := 0) hS hB hR (by omega) hlt
  refine (ix_46 (S' := []) rfl (sh_208 hS) e1 rfl rfl (ex_6_0 (ix_41i (v := 1) (sh_208 hS) ((MR_o r1).trans (by rw [hod]; rfl)) (ex_if0 (fun hc => by exfalso; revert hc; decide) (fun _ => ?_)))))
  refine (ex_4_1 (ex_0 ?_))
  refine ex_ic2 (fun hc112 => by exfalso; omega) (fun hc112 => ?_)
  refine (ex_6_0 (ix_41i (v := 0) (sh_208 hS) (MR_b r1) (ex_if1 (fun hc => by exfalso; revert hc; decide) (fun _ => ?_))))
  refine (ex_6_0 (ix_41i (v := ((c + 1 : Nat) : Int)) (sh_208 hS) (MR_P r1).1 (ex_0 (ex_11e (v := (c : Int)) ((am_sub ⟨by omega, by omega⟩).trans (by omega)) (ex_7_3 rfl (ex_6_0 (ix_41r (sh_208 hS) (pt_208_25 hS) (ex_4_3 (ex_6_0 (ex_1 (ex_4_1 (ex_0 ?_))))))))))))
  refine ex_ic1 (fun hc139 => by exfalso; omega) (fun hc139 => ?_)
  refine (ex_1 (ex_28 (ix_46 (S' := [(.inl ((Int32.ofInt (wo b n (nx b n s))).toInt)), (.inl (c : Int)), (.inr (.inr (some 220)))]) rfl (sh_208 hS) (c_number_f (d := d) (lo := 0) (hi := 5) hS hB (MR_M r1) (MR_s r1) (MR_b r1) hnf) rfl rfl (ix_34 (j := c) (sh_220 hS) (by omega) (by omega) (by omega) (ex_58 (ex_0 ?_))))))
  exact ex_53 (QL_inl (by unfold px_leaf px_word; rw [if_neg hq, if_neg (fun zz => zz hnu), if_pos ⟨hod, by omega⟩]; unfold px_which; rw [if_neg (fun zz => hw2 ⟨by omega, by omega⟩)]) (BAD_arg (MR_bad r1)) (MFr_trans f1 (MFr_trans MFr_bad (fun q k y1 y2 y3 => u2_o (by omega)) (Nat.le_refl _) (Nat.le_refl _)) (Nat.le_refl _) (Nat.le_refl _)))
theorem cl_busy_t {d : Nat} {G : am_G} {I : Nat → Nat → Int} {P : Nat → Nat → Option Nat} (hS : ST G P) {b : Nat → Int} {n : Nat} (hB : TB b n) {od : Bool} {s l c p op : Nat} (hR : MR I b n od s l c p op) (h91 : ¬ tk b n s = [91]) (hod : od = true) (hq : ¬ ((num b n s = -1 ∧ wrd od (tk b n s) = -1) ∨ 1000 < num b n s ∨ 50 ≤ l)) {j : Nat} (hj : wrd od (tk b n s) = (j : Int)) (h2 : ¬ ms b n s = 2) (hnu : num b n s = -1) (hj5 : j = 6) (hm2 : ms b n (nx b n s) = 2) (hw2 : 0 ≤ wo b n (nx b n s) ∧ wo b n (nx b n s) ≤ 4) : ∃ o, am_call am_B am_M (d + 5) 216 [(.inr (.inr (some 208)))] (G, I, P) = some o ∧ QL G P b n od I c p op 3 (px_leaf b n od s l) o := by
  have hn4 := hB.1
  have hs := MR_s hR
  have hcp := MR_cp hR
  have hwe : wrd od (tk b n s) = ooI OWs 0 (tk b n s) := by rw [hod]; rfl
  have hnw := num_wo (b := b) hs
  have hnb := num_b (b := b) hs
  have hwat : wat OWs (tk b n s) = if wrd od (tk b n s) = -1 then -1 else wrd od (tk b n s) + 1 := by rw [hwe]; rfl
  have hjm : ¬ wrd od (tk b n s) = -1 := by omega
  have hlt := wrd_lt (b := b) (od := od) hs hjm
  have hnx := nx_2 (b := b) s hlt
  have hrng := ooI_rng (t := tk b n s) OWs 0
  have hln : OWs.length = 7 := rfl
  rw [← hwe, hln] at hrng
  have hnw2 := num_wo (b := b) hnx.2
  have hq2 := hnw2.2 hm2
  have hlt2 := num_lt (b := b) hnx.2 (hnw2.1.mp hm2)
  refine am_doQ (L := [some (.inr (.inr (some 208))), none, none, none]) (Nat.le_of_ble_eq_true rfl) rfl ?_
  refine (ex_6_0 (ex_0 (ix_46 (S' := [(.inl 0)]) rfl (sh_208 hS) (c_isS_f hS hB (MR_M hR) (MR_s hR) (v := 91) (by decide) h91) rfl rfl (ex_if0 (fun _ => ?_) (fun hc => by exfalso; revert hc; decide)))))
  refine (ex_6_0 (ix_41i (v := 1) (sh_208 hS) ((MR_o hR).trans (by rw [hod]; rfl)) (ex_if0 (fun hc => by exfalso; revert hc; decide) (fun _ => ?_))))
  refine (ex_6_0 (ix_46 (S' := [(.inl ((j : Int) + 1))]) rfl (sh_208 hS) (c_its_o (d := d + 2) hS hB hR (v := ((j : Int) + 1)) (hwat.trans ((if_neg hjm).trans (by rw [hj])))) rfl rfl (ex_28 (ex_7_1 rfl (ex_6_0 (ix_41i (v := (ms b n s)) (sh_208 hS) (MR_M hR).2.2.2.1 (ex_0 ?_)))))))
  refine ex_ic1 (fun hc41 => ?_) (fun hc41 => by exfalso; omega)
  refine (ex_0 (ex_58 (ex_7_2 rfl (ex_6_0 (ex_4_1 (ex_0 ?_))))))
  refine ex_ic1 (fun hc64 => ?_) (fun hc64 => by exfalso; omega)
  refine (ex_0 (ex_28 (ex_4_1 (ex_0 ?_))))
  refine ex_ic1 (fun hc78 => ?_) (fun hc78 => by exfalso; omega)
  refine (ex_4_1 (ex_58 (ex_4_2 (ex_if0 (fun _ => ?_) (fun hc => by exfalso; revert hc; decide)))))
  refine (ex_0 (ex_58 ?_))
  obtain ⟨I1, e1, r1, o1, a1, f1⟩ := c_leaf_t (d := d) (ov := ((j : Int) + 1)) (av := 0) hS hB hR (by omega) hlt
  refine (ix_46 (S' := []) rfl (sh_208 hS) e1 rfl rfl (ex_6_0 (ix_41i (v := 1) (sh_208 hS) ((MR_o r1).trans (by rw [hod]; rfl)) (ex_if0 (fun hc => by exfalso; revert hc; decide) (fun _ => ?_)))))
  refine (ex_4_1 (ex_0 ?_))
  refine ex_ic2 (fun hc112 => by exfalso; omega) (fun hc112 => ?_)
  refine (ex_6_0 (ix_41i (v := 0) (sh_208 hS) (MR_b r1) (ex_if1 (fun hc => by exfalso; revert hc; decide) (fun _ => ?_))))
  refine (ex_6_0 (ix_41i (v := ((c + 1 : Nat) : Int)) (sh_208 hS) (MR_P r1).1 (ex_0 (ex_11e (v := (c : Int)) ((am_sub ⟨by omega, by omega⟩).trans (by omega)) (ex_7_3 rfl (ex_6_0 (ix_41r (sh_208 hS) (pt_208_25 hS) (ex_4_3 (ex_6_0 (ex_1 (ex_4_1 (ex_0 ?_))))))))))))
  refine ex_ic1 (fun hc139 => ?_) (fun hc139 => by exfalso; omega)
  refine (ex_1 (ex_58 ?_))
  obtain ⟨I2, e2, m2, f2⟩ := c_number_t (d := d) (lo := 0) (hi := 4) hS hB (MR_M r1) (MR_s r1) (MR_b r1) hm2 hw2
  have r2 := MR_next r1 hlt2 m2 f2
  refine (ix_46 (S' := [(.inl (wo b n (nx b n s))), (.inl (c : Int)), (.inr (.inr (some 220)))]) rfl (sh_208 hS) e2 rfl rfl (ix_34 (j := c) (sh_220 hS) (by omega) (by omega) (by omega) (ex_58 (ex_0 ?_))))
  exact ex_53 (QL_inr (l' := l + 1) (by unfold px_leaf px_word; rw [if_neg hq, if_neg (fun zz => zz hnu), if_neg (fun zz => by omega), if_pos ⟨hod, by omega⟩]; unfold px_which; rw [if_pos ⟨by omega, by omega⟩]) (MR_arg r2 (by omega)) (by have hh := MS_busy (O := (am_u2 I2 220 c (wo b n (nx b n s))) 219) (A := (am_u2 I2 220 c (wo b n (nx b n s))) 220) (a := c) (j := (wo b n (nx b n s)).toNat) ((u2_q (by decide)).trans ((f2 _ _ (by omega)).trans (o1.trans (by omega)))) (u2_e.trans (by omega)) (by omega); rw [show (wo b n (nx b n s)).toNat = (num b n (nx b n s)).toNat by omega] at hh; subst hod; exact hh) (MFr_trans f1 (MFr_trans (MFr_MK f2) (fun q k y1 y2 y3 => u2_o (by omega)) (Nat.le_refl _) (Nat.le_refl _)) (Nat.le_refl _) (Nat.le_refl _)))
theorem cl_busy_f {d : Nat} {G : am_G} {I : Nat → Nat → Int} {P : Nat → Nat → Option Nat} (hS : ST G P) {b : Nat → Int} {n : Nat} (hB : TB b n) {od : Bool} {s l c p op : Nat} (hR : MR I b n od s l c p op) (h91 : ¬ tk b n s = [91]) (hod : od = true) (hq : ¬ ((num b n s = -1 ∧ wrd od (tk b n s) = -1) ∨ 1000 < num b n s ∨ 50 ≤ l)) {j : Nat} (hj : wrd od (tk b n s) = (j : Int)) (h2 : ¬ ms b n s = 2) (hnu : num b n s = -1) (hj5 : j = 6) (hw2 : ¬ (0 ≤ num b n (nx b n s) ∧ num b n (nx b n s) < 5)) : ∃ o, am_call am_B am_M (d + 5) 216 [(.inr (.inr (some 208)))] (G, I, P) = some o ∧ QL G P b n od I c p op 3 (px_leaf b n od s l) o := by
  have hn4 := hB.1
  have hs := MR_s hR
  have hcp := MR_cp hR
  have hwe : wrd od (tk b n s) = ooI OWs 0 (tk b n s) := by rw [hod]; rfl
  have hnw := num_wo (b := b) hs
  have hnb := num_b (b := b) hs
  have hwat : wat OWs (tk b n s) = if wrd od (tk b n s) = -1 then -1 else wrd od (tk b n s) + 1 := by rw [hwe]; rfl
  have hjm : ¬ wrd od (tk b n s) = -1 := by omega
  have hlt := wrd_lt (b := b) (od := od) hs hjm
  have hnx := nx_2 (b := b) s hlt
  have hrng := ooI_rng (t := tk b n s) OWs 0
  have hln : OWs.length = 7 := rfl
  rw [← hwe, hln] at hrng
  have hnw2 := num_wo (b := b) hnx.2
  have hnf : ¬ (ms b n (nx b n s) = 2 ∧ 0 ≤ wo b n (nx b n s) ∧ wo b n (nx b n s) ≤ 4) := fun zz => by have hq2 := hnw2.2 zz.1; omega
  refine am_doQ (L := [some (.inr (.inr (some 208))), none, none, none]) (Nat.le_of_ble_eq_true rfl) rfl ?_
  refine (ex_6_0 (ex_0 (ix_46 (S' := [(.inl 0)]) rfl (sh_208 hS) (c_isS_f hS hB (MR_M hR) (MR_s hR) (v := 91) (by decide) h91) rfl rfl (ex_if0 (fun _ => ?_) (fun hc => by exfalso; revert hc; decide)))))
  refine (ex_6_0 (ix_41i (v := 1) (sh_208 hS) ((MR_o hR).trans (by rw [hod]; rfl)) (ex_if0 (fun hc => by exfalso; revert hc; decide) (fun _ => ?_))))
  refine (ex_6_0 (ix_46 (S' := [(.inl ((j : Int) + 1))]) rfl (sh_208 hS) (c_its_o (d := d + 2) hS hB hR (v := ((j : Int) + 1)) (hwat.trans ((if_neg hjm).trans (by rw [hj])))) rfl rfl (ex_28 (ex_7_1 rfl (ex_6_0 (ix_41i (v := (ms b n s)) (sh_208 hS) (MR_M hR).2.2.2.1 (ex_0 ?_)))))))
  refine ex_ic1 (fun hc41 => ?_) (fun hc41 => by exfalso; omega)
  refine (ex_0 (ex_58 (ex_7_2 rfl (ex_6_0 (ex_4_1 (ex_0 ?_))))))
  refine ex_ic1 (fun hc64 => ?_) (fun hc64 => by exfalso; omega)
  refine (ex_0 (ex_28 (ex_4_1 (ex_0 ?_))))
  refine ex_ic1 (fun hc78 => ?_) (fun hc78 => by exfalso; omega)
  refine (ex_4_1 (ex_58 (ex_4_2 (ex_if0 (fun _ => ?_) (fun hc => by exfalso; revert hc; decide)))))
  refine (ex_0 (ex_58 ?_))
  obtain ⟨I1, e1, r1, o1, a1, f1⟩ := c_leaf_t (d := d) (ov := ((j : Int) + 1)) (av := 0) hS hB hR (by omega) hlt
  refine (ix_46 (S' := []) rfl (sh_208 hS) e1 rfl rfl (ex_6_0 (ix_41i (v := 1) (sh_208 hS) ((MR_o r1).trans (by rw [hod]; rfl)) (ex_if0 (fun hc => by exfalso; revert hc; decide) (fun _ => ?_)))))
  refine (ex_4_1 (ex_0 ?_))
  refine ex_ic2 (fun hc112 => by exfalso; omega) (fun hc112 => ?_)
  refine (ex_6_0 (ix_41i (v := 0) (sh_208 hS) (MR_b r1) (ex_if1 (fun hc => by exfalso; revert hc; decide) (fun _ => ?_))))
  refine (ex_6_0 (ix_41i (v := ((c + 1 : Nat) : Int)) (sh_208 hS) (MR_P r1).1 (ex_0 (ex_11e (v := (c : Int)) ((am_sub ⟨by omega, by omega⟩).trans (by omega)) (ex_7_3 rfl (ex_6_0 (ix_41r (sh_208 hS) (pt_208_25 hS) (ex_4_3 (ex_6_0 (ex_1 (ex_4_1 (ex_0 ?_))))))))))))
  refine ex_ic1 (fun hc139 => ?_) (fun hc139 => by exfalso; omega)
  refine (ex_1 (ex_58 (ix_46 (S' := [(.inl ((Int32.ofInt (wo b n (nx b n s))).toInt)), (.inl (c : Int)), (.inr (.inr (some 220)))]) rfl (sh_208 hS) (c_number_f (d := d) (lo := 0) (hi := 4) hS hB (MR_M r1) (MR_s r1) (MR_b r1) hnf) rfl rfl (ix_34 (j := c) (sh_220 hS) (by omega) (by omega) (by omega) (ex_58 (ex_0 ?_))))))
  exact ex_53 (QL_inl (by unfold px_leaf px_word; rw [if_neg hq, if_neg (fun zz => zz hnu), if_neg (fun zz => by omega), if_pos ⟨hod, by omega⟩]; unfold px_which; rw [if_neg (fun zz => hw2 ⟨by omega, by omega⟩)]) (BAD_arg (MR_bad r1)) (MFr_trans f1 (MFr_trans MFr_bad (fun q k y1 y2 y3 => u2_o (by omega)) (Nat.le_refl _) (Nat.le_refl _)) (Nat.le_refl _) (Nat.le_refl _)))
theorem wrd_numl {b : Nat → Int} {n : Nat} {s : Nat} (hs : s ≤ n) {od : Bool} (hod : od = false) : num b n s = -1 ∨ wrd od (tk b n s) = -1 := by
  have hwe : wrd od (tk b n s) = ooI LWs 0 (tk b n s) := by rw [hod]; rfl
  have hnw := num_wo (b := b) hs
  apply Classical.byContradiction
  intro zz
  have z1 := not_or.mp zz
  have z2 : ms b n s = 2 := hnw.1.mpr z1.1
  have z3 := ooI_some (t := tk b n s) LWs 0 (fun e => z1.2 (hwe.trans e))
  have hL : ∀ w, w ∈ LWs → (w.all fun c => decide (97 ≤ c ∧ c ≤ 122)) = true := by decide
  have hL1 : ∀ w, w ∈ LWs → 0 < w.length := by decide
  have hL2 : ∀ w, w ∈ LWs → w.length ≤ 10 := by decide
  have := ((word_iff hs (kw := tk b n s) (lets_of (hL _ z3)) (hL1 _ z3) (hL2 _ z3)).mpr rfl).1
  omega
theorem cl_cl {d : Nat} {G : am_G} {I : Nat → Nat → Int} {P : Nat → Nat → Option Nat} (hS : ST G P) {b : Nat → Int} {n : Nat} (hB : TB b n) {od : Bool} {s l c p op : Nat} (hR : MR I b n od s l c p op) (h91 : ¬ tk b n s = [91]) (hod : od = false) (hq : (num b n s = -1 ∧ wrd od (tk b n s) = -1) ∨ 1000 < num b n s ∨ 50 ≤ l) (h1 : wrd od (tk b n s) = -1) (h2 : ms b n s = 2 → 1000 < wo b n s) : ∃ o, am_call am_B am_M (d + 5) 216 [(.inr (.inr (some 208)))] (G, I, P) = some o ∧ QL G P b n od I c p op 3 (px_leaf b n od s l) o := by
  have hn4 := hB.1
  have hs := MR_s hR
  have hcp := MR_cp hR
  have hwe : wrd od (tk b n s) = ooI LWs 0 (tk b n s) := by rw [hod]; rfl
  have hnw := num_wo (b := b) hs
  have hnb := num_b (b := b) hs
  have hwat : wat LWs (tk b n s) = if wrd od (tk b n s) = -1 then -1 else wrd od (tk b n s) + 1 := by rw [hwe]; rfl
  refine am_doQ (L := [some (.inr (.inr (some 208))), none, none, none]) (Nat.le_of_ble_eq_true rfl) rfl ?_
  refine (ex_6_0 (ex_0 (ix_46 (S' := [(.inl 0)]) rfl (sh_208 hS) (c_isS_f hS hB (MR_M hR) (MR_s hR) (v := 91) (by decide) h91) rfl rfl (ex_if0 (fun _ => ?_) (fun hc => by exfalso; revert hc; decide)))))
  refine (ex_6_0 (ix_41i (v := 0) (sh_208 hS) ((MR_o hR).trans (by rw [hod]; rfl)) (ex_if0 (fun _ => ?_) (fun hc => by exfalso; revert hc; decide))))
  refine (ex_6_0 (ix_46 (S' := [(.inl (-1))]) rfl (sh_208 hS) (c_its_l (d := d + 2) hS hB hR (v := -1) (hwat.trans (if_pos h1))) rfl rfl (ex_58 (ex_7_1 rfl (ex_6_0 (ix_41i (v := (ms b n s)) (sh_208 hS) (MR_M hR).2.2.2.1 (ex_0 ?_)))))))
  refine ex_ic1 (fun hc41 => ?_) (fun hc41 => ?_)
  · refine (ex_0 (ex_58 (ex_7_2 rfl (ex_6_0 (ex_4_1 (ex_0 (ex_ic1 (fun hc => by exfalso; revert hc; decide) (fun _ => ?_))))))))
    refine (ex_4_2 (ex_if0 (fun _ => ?_) (fun hc => by exfalso; revert hc; decide)))
    refine (ex_0 (ex_58 (ex_4_1 (ex_0 (ex_ic1 (fun hc => by exfalso; revert hc; decide) (fun _ => ?_))))))
    refine (ex_0 (ex_28 (ex_4_2 (ex_if0 (fun _ => ?_) (fun hc => by exfalso; revert hc; decide)))))
    refine (ex_0 (ex_58 (ix_46 (S' := []) rfl (sh_208 hS) (c_leaf_0 (d := d) hS hB hR) rfl rfl (ex_6_0 (ix_41i (v := 0) (sh_208 hS) ((u2_k (by decide)).trans ((u2_k (by decide)).trans ((MR_o hR).trans (by rw [hod]; rfl)))) (ex_if0 (fun _ => ?_) (fun hc => by exfalso; revert hc; decide)))))))
    refine (ex_0 ?_)
    exact ex_53 (QL_inl (by unfold px_leaf; rw [if_pos hq]) (MR_bad hR) MFr_bad)
  · refine (ex_6_0 (ix_41l (v := (wo b n s)) (sh_208 hS) (MR_M hR).2.2.2.2.1 (ex_1 ?_)))
    refine ex_lc4 (fun hc52 => ?_) (fun hc52 => by exfalso; omega)
    refine (ex_0 (ex_58 (ex_7_2 rfl (ex_6_0 (ex_4_1 (ex_0 (ex_ic1 (fun hc => by exfalso; revert hc; decide) (fun _ => ?_))))))))
    refine (ex_4_2 (ex_if0 (fun _ => ?_) (fun hc => by exfalso; revert hc; decide)))
    refine (ex_0 (ex_58 (ex_4_1 (ex_0 (ex_ic1 (fun hc => by exfalso; revert hc; decide) (fun _ => ?_))))))
    refine (ex_0 (ex_28 (ex_4_2 (ex_if0 (fun _ => ?_) (fun hc => by exfalso; revert hc; decide)))))
    refine (ex_0 (ex_58 (ix_46 (S' := []) rfl (sh_208 hS) (c_leaf_0 (d := d) hS hB hR) rfl rfl (ex_6_0 (ix_41i (v := 0) (sh_208 hS) ((u2_k (by decide)).trans ((u2_k (by decide)).trans ((MR_o hR).trans (by rw [hod]; rfl)))) (ex_if0 (fun _ => ?_) (fun hc => by exfalso; revert hc; decide)))))))
    refine (ex_0 ?_)
    exact ex_53 (QL_inl (by unfold px_leaf; rw [if_pos hq]) (MR_bad hR) MFr_bad)
theorem cl_bfl {d : Nat} {G : am_G} {I : Nat → Nat → Int} {P : Nat → Nat → Option Nat} (hS : ST G P) {b : Nat → Int} {n : Nat} (hB : TB b n) {od : Bool} {s l c p op : Nat} (hR : MR I b n od s l c p op) (h91 : ¬ tk b n s = [91]) (hod : od = false) (hq : (num b n s = -1 ∧ wrd od (tk b n s) = -1) ∨ 1000 < num b n s ∨ 50 ≤ l) (h1 : wrd od (tk b n s) = -1) (h2 : ms b n s = 2) (h3 : wo b n s ≤ 1000) (hl : ¬ l < 50) : ∃ o, am_call am_B am_M (d + 5) 216 [(.inr (.inr (some 208)))] (G, I, P) = some o ∧ QL G P b n od I c p op 3 (px_leaf b n od s l) o := by
  have hn4 := hB.1
  have hs := MR_s hR
  have hcp := MR_cp hR
  have hwe : wrd od (tk b n s) = ooI LWs 0 (tk b n s) := by rw [hod]; rfl
  have hnw := num_wo (b := b) hs
  have hnb := num_b (b := b) hs
  have hwat : wat LWs (tk b n s) = if wrd od (tk b n s) = -1 then -1 else wrd od (tk b n s) + 1 := by rw [hwe]; rfl
  have hw2 := hnw.2 h2
  refine am_doQ (L := [some (.inr (.inr (some 208))), none, none, none]) (Nat.le_of_ble_eq_true rfl) rfl ?_
  refine (ex_6_0 (ex_0 (ix_46 (S' := [(.inl 0)]) rfl (sh_208 hS) (c_isS_f hS hB (MR_M hR) (MR_s hR) (v := 91) (by decide) h91) rfl rfl (ex_if0 (fun _ => ?_) (fun hc => by exfalso; revert hc; decide)))))
  refine (ex_6_0 (ix_41i (v := 0) (sh_208 hS) ((MR_o hR).trans (by rw [hod]; rfl)) (ex_if0 (fun _ => ?_) (fun hc => by exfalso; revert hc; decide))))
  refine (ex_6_0 (ix_46 (S' := [(.inl (-1))]) rfl (sh_208 hS) (c_its_l (d := d + 2) hS hB hR (v := -1) (hwat.trans (if_pos h1))) rfl rfl (ex_58 (ex_7_1 rfl (ex_6_0 (ix_41i (v := (ms b n s)) (sh_208 hS) (MR_M hR).2.2.2.1 (ex_0 ?_)))))))
  refine ex_ic1 (fun hc41 => by exfalso; omega) (fun hc41 => ?_)
  refine (ex_6_0 (ix_41l (v := (wo b n s)) (sh_208 hS) (MR_M hR).2.2.2.2.1 (ex_1 ?_)))
  refine ex_lc4 (fun hc52 => by exfalso; omega) (fun hc52 => ?_)
  refine (ex_0 (ex_28 (ex_7_2 rfl (ex_6_0 (ex_4_1 (ex_0 (ex_ic1 (fun hc => by exfalso; revert hc; decide) (fun _ => ?_))))))))
  refine (ex_4_2 (ex_if0 (fun hc => by exfalso; revert hc; decide) (fun _ => ?_)))
  refine (ex_0 (ex_28 (ex_4_1 (ex_0 (ex_ic1 (fun hc => by exfalso; revert hc; decide) (fun _ => ?_))))))
  refine (ex_0 (ex_28 (ex_4_2 (ex_if0 (fun hc => by exfalso; revert hc; decide) (fun _ => ?_)))))
  refine (ex_6_0 (ix_41l (v := (wo b n s)) (sh_208 hS) (MR_M hR).2.2.2.2.1 (ex_20 ⟨by omega, by omega⟩ (ex_28 (ix_46 (S' := []) rfl (sh_208 hS) (c_leaf_f (d := d) hS hB hR (by omega)) rfl rfl (ex_6_0 (ix_41i (v := 0) (sh_208 hS) ((u2_k (by decide)).trans ((u2_k (by decide)).trans ((MR_o hR).trans (by rw [hod]; rfl)))) (ex_if0 (fun _ => ?_) (fun hc => by exfalso; revert hc; decide)))))))))
  refine (ex_0 ?_)
  exact ex_53 (QL_inl (by unfold px_leaf; rw [if_pos hq]) (MR_bad hR) MFr_bad)
theorem cl_bl {d : Nat} {G : am_G} {I : Nat → Nat → Int} {P : Nat → Nat → Option Nat} (hS : ST G P) {b : Nat → Int} {n : Nat} (hB : TB b n) {od : Bool} {s l c p op : Nat} (hR : MR I b n od s l c p op) (h91 : ¬ tk b n s = [91]) (hod : od = false) (hq : ¬ ((num b n s = -1 ∧ wrd od (tk b n s) = -1) ∨ 1000 < num b n s ∨ 50 ≤ l)) (h1 : wrd od (tk b n s) = -1) (h2 : ms b n s = 2) (h3 : wo b n s ≤ 1000) : ∃ o, am_call am_B am_M (d + 5) 216 [(.inr (.inr (some 208)))] (G, I, P) = some o ∧ QL G P b n od I c p op 3 (px_leaf b n od s l) o := by
  have hn4 := hB.1
  have hs := MR_s hR
  have hcp := MR_cp hR
  have hwe : wrd od (tk b n s) = ooI LWs 0 (tk b n s) := by rw [hod]; rfl
  have hnw := num_wo (b := b) hs
  have hnb := num_b (b := b) hs
  have hwat : wat LWs (tk b n s) = if wrd od (tk b n s) = -1 then -1 else wrd od (tk b n s) + 1 := by rw [hwe]; rfl
  have hw2 := hnw.2 h2
  have hlt := num_lt (b := b) hs (hnw.1.mp h2)
  refine am_doQ (L := [some (.inr (.inr (some 208))), none, none, none]) (Nat.le_of_ble_eq_true rfl) rfl ?_
  refine (ex_6_0 (ex_0 (ix_46 (S' := [(.inl 0)]) rfl (sh_208 hS) (c_isS_f hS hB (MR_M hR) (MR_s hR) (v := 91) (by decide) h91) rfl rfl (ex_if0 (fun _ => ?_) (fun hc => by exfalso; revert hc; decide)))))
  refine (ex_6_0 (ix_41i (v := 0) (sh_208 hS) ((MR_o hR).trans (by rw [hod]; rfl)) (ex_if0 (fun _ => ?_) (fun hc => by exfalso; revert hc; decide))))
  refine (ex_6_0 (ix_46 (S' := [(.inl (-1))]) rfl (sh_208 hS) (c_its_l (d := d + 2) hS hB hR (v := -1) (hwat.trans (if_pos h1))) rfl rfl (ex_58 (ex_7_1 rfl (ex_6_0 (ix_41i (v := (ms b n s)) (sh_208 hS) (MR_M hR).2.2.2.1 (ex_0 ?_)))))))
  refine ex_ic1 (fun hc41 => by exfalso; omega) (fun hc41 => ?_)
  refine (ex_6_0 (ix_41l (v := (wo b n s)) (sh_208 hS) (MR_M hR).2.2.2.2.1 (ex_1 ?_)))
  refine ex_lc4 (fun hc52 => by exfalso; omega) (fun hc52 => ?_)
  refine (ex_0 (ex_28 (ex_7_2 rfl (ex_6_0 (ex_4_1 (ex_0 (ex_ic1 (fun hc => by exfalso; revert hc; decide) (fun _ => ?_))))))))
  refine (ex_4_2 (ex_if0 (fun hc => by exfalso; revert hc; decide) (fun _ => ?_)))
  refine (ex_0 (ex_28 (ex_4_1 (ex_0 (ex_ic1 (fun hc => by exfalso; revert hc; decide) (fun _ => ?_))))))
  refine (ex_0 (ex_28 (ex_4_2 (ex_if0 (fun hc => by exfalso; revert hc; decide) (fun _ => ?_)))))
  refine (ex_6_0 (ix_41l (v := (wo b n s)) (sh_208 hS) (MR_M hR).2.2.2.2.1 (ex_20 ⟨by omega, by omega⟩ (ex_28 ?_))))
  obtain ⟨I1, e1, r1, o1, a1, f1⟩ := c_leaf_t (d := d) (ov := 0) (av := (wo b n s)) hS hB hR (by omega) hlt
  refine (ix_46 (S' := []) rfl (sh_208 hS) e1 rfl rfl (ex_6_0 (ix_41i (v := 0) (sh_208 hS) ((MR_o r1).trans (by rw [hod]; rfl)) (ex_if0 (fun _ => ?_) (fun hc => by exfalso; revert hc; decide)))))
  refine (ex_0 ?_)
  exact ex_53 (QL_inr (by unfold px_leaf; rw [if_neg hq, if_pos (hnw.1.mp h2)]) r1 (by have hh := MS_num (od := od) o1 a1 ⟨by omega, by omega⟩; rw [show wo b n s = num b n s by omega] at hh; exact hh) f1)
theorem cl_afl {d : Nat} {G : am_G} {I : Nat → Nat → Int} {P : Nat → Nat → Option Nat} (hS : ST G P) {b : Nat → Int} {n : Nat} (hB : TB b n) {od : Bool} {s l c p op : Nat} (hR : MR I b n od s l c p op) (h91 : ¬ tk b n s = [91]) (hod : od = false) (hq : (num b n s = -1 ∧ wrd od (tk b n s) = -1) ∨ 1000 < num b n s ∨ 50 ≤ l) {j : Nat} (hj : wrd od (tk b n s) = (j : Int)) (h2 : ¬ ms b n s = 2) (hnu : num b n s = -1) (hl : ¬ l < 50) : ∃ o, am_call am_B am_M (d + 5) 216 [(.inr (.inr (some 208)))] (G, I, P) = some o ∧ QL G P b n od I c p op 3 (px_leaf b n od s l) o := by
  have hn4 := hB.1
  have hs := MR_s hR
  have hcp := MR_cp hR
  have hwe : wrd od (tk b n s) = ooI LWs 0 (tk b n s) := by rw [hod]; rfl
  have hnw := num_wo (b := b) hs
  have hnb := num_b (b := b) hs
  have hwat : wat LWs (tk b n s) = if wrd od (tk b n s) = -1 then -1 else wrd od (tk b n s) + 1 := by rw [hwe]; rfl
  have hjm : ¬ wrd od (tk b n s) = -1 := by omega
  have hlt := wrd_lt (b := b) (od := od) hs hjm
  have hnx := nx_2 (b := b) s hlt
  have hrng := ooI_rng (t := tk b n s) LWs 0
  have hln : LWs.length = 9 := rfl
  rw [← hwe, hln] at hrng
  refine am_doQ (L := [some (.inr (.inr (some 208))), none, none, none]) (Nat.le_of_ble_eq_true rfl) rfl ?_
  refine (ex_6_0 (ex_0 (ix_46 (S' := [(.inl 0)]) rfl (sh_208 hS) (c_isS_f hS hB (MR_M hR) (MR_s hR) (v := 91) (by decide) h91) rfl rfl (ex_if0 (fun _ => ?_) (fun hc => by exfalso; revert hc; decide)))))
  refine (ex_6_0 (ix_41i (v := 0) (sh_208 hS) ((MR_o hR).trans (by rw [hod]; rfl)) (ex_if0 (fun _ => ?_) (fun hc => by exfalso; revert hc; decide))))
  refine (ex_6_0 (ix_46 (S' := [(.inl ((j : Int) + 1))]) rfl (sh_208 hS) (c_its_l (d := d + 2) hS hB hR (v := ((j : Int) + 1)) (hwat.trans ((if_neg hjm).trans (by rw [hj])))) rfl rfl (ex_58 (ex_7_1 rfl (ex_6_0 (ix_41i (v := (ms b n s)) (sh_208 hS) (MR_M hR).2.2.2.1 (ex_0 ?_)))))))
  refine ex_ic1 (fun hc41 => ?_) (fun hc41 => by exfalso; omega)
  refine (ex_0 (ex_58 (ex_7_2 rfl (ex_6_0 (ex_4_1 (ex_0 ?_))))))
  refine ex_ic1 (fun hc64 => ?_) (fun hc64 => by exfalso; omega)
  refine (ex_0 (ex_28 (ex_4_1 (ex_0 ?_))))
  refine ex_ic1 (fun hc78 => ?_) (fun hc78 => by exfalso; omega)
  refine (ex_4_1 (ex_58 (ex_4_2 (ex_if0 (fun _ => ?_) (fun hc => by exfalso; revert hc; decide)))))
  refine (ex_0 (ex_58 (ix_46 (S' := []) rfl (sh_208 hS) (c_leaf_f (d := d) hS hB hR (by omega)) rfl rfl (ex_6_0 (ix_41i (v := 0) (sh_208 hS) ((u2_k (by decide)).trans ((u2_k (by decide)).trans ((MR_o hR).trans (by rw [hod]; rfl)))) (ex_if0 (fun _ => ?_) (fun hc => by exfalso; revert hc; decide)))))))
  refine (ex_0 ?_)
  exact ex_53 (QL_inl (by unfold px_leaf; rw [if_pos hq]) (MR_bad hR) MFr_bad)
theorem cl_al {d : Nat} {G : am_G} {I : Nat → Nat → Int} {P : Nat → Nat → Option Nat} (hS : ST G P) {b : Nat → Int} {n : Nat} (hB : TB b n) {od : Bool} {s l c p op : Nat} (hR : MR I b n od s l c p op) (h91 : ¬ tk b n s = [91]) (hod : od = false) (hq : ¬ ((num b n s = -1 ∧ wrd od (tk b n s) = -1) ∨ 1000 < num b n s ∨ 50 ≤ l)) {j : Nat} (hj : wrd od (tk b n s) = (j : Int)) (h2 : ¬ ms b n s = 2) (hnu : num b n s = -1) : ∃ o, am_call am_B am_M (d + 5) 216 [(.inr (.inr (some 208)))] (G, I, P) = some o ∧ QL G P b n od I c p op 3 (px_leaf b n od s l) o := by
  have hn4 := hB.1
  have hs := MR_s hR
  have hcp := MR_cp hR
  have hwe : wrd od (tk b n s) = ooI LWs 0 (tk b n s) := by rw [hod]; rfl
  have hnw := num_wo (b := b) hs
  have hnb := num_b (b := b) hs
  have hwat : wat LWs (tk b n s) = if wrd od (tk b n s) = -1 then -1 else wrd od (tk b n s) + 1 := by rw [hwe]; rfl
  have hjm : ¬ wrd od (tk b n s) = -1 := by omega
  have hlt := wrd_lt (b := b) (od := od) hs hjm
  have hnx := nx_2 (b := b) s hlt
  have hrng := ooI_rng (t := tk b n s) LWs 0
  have hln : LWs.length = 9 := rfl
  rw [← hwe, hln] at hrng
  refine am_doQ (L := [some (.inr (.inr (some 208))), none, none, none]) (Nat.le_of_ble_eq_true rfl) rfl ?_
  refine (ex_6_0 (ex_0 (ix_46 (S' := [(.inl 0)]) rfl (sh_208 hS) (c_isS_f hS hB (MR_M hR) (MR_s hR) (v := 91) (by decide) h91) rfl rfl (ex_if0 (fun _ => ?_) (fun hc => by exfalso; revert hc; decide)))))
  refine (ex_6_0 (ix_41i (v := 0) (sh_208 hS) ((MR_o hR).trans (by rw [hod]; rfl)) (ex_if0 (fun _ => ?_) (fun hc => by exfalso; revert hc; decide))))
  refine (ex_6_0 (ix_46 (S' := [(.inl ((j : Int) + 1))]) rfl (sh_208 hS) (c_its_l (d := d + 2) hS hB hR (v := ((j : Int) + 1)) (hwat.trans ((if_neg hjm).trans (by rw [hj])))) rfl rfl (ex_58 (ex_7_1 rfl (ex_6_0 (ix_41i (v := (ms b n s)) (sh_208 hS) (MR_M hR).2.2.2.1 (ex_0 ?_)))))))
  refine ex_ic1 (fun hc41 => ?_) (fun hc41 => by exfalso; omega)
  refine (ex_0 (ex_58 (ex_7_2 rfl (ex_6_0 (ex_4_1 (ex_0 ?_))))))
  refine ex_ic1 (fun hc64 => ?_) (fun hc64 => by exfalso; omega)
  refine (ex_0 (ex_28 (ex_4_1 (ex_0 ?_))))
  refine ex_ic1 (fun hc78 => ?_) (fun hc78 => by exfalso; omega)
  refine (ex_4_1 (ex_58 (ex_4_2 (ex_if0 (fun _ => ?_) (fun hc => by exfalso; revert hc; decide)))))
  refine (ex_0 (ex_58 ?_))
  obtain ⟨I1, e1, r1, o1, a1, f1⟩ := c_leaf_t (d := d) (ov := ((j : Int) + 1)) (av := 0) hS hB hR (by omega) hlt
  refine (ix_46 (S' := []) rfl (sh_208 hS) e1 rfl rfl (ex_6_0 (ix_41i (v := 0) (sh_208 hS) ((MR_o r1).trans (by rw [hod]; rfl)) (ex_if0 (fun _ => ?_) (fun hc => by exfalso; revert hc; decide)))))
  refine (ex_0 ?_)
  exact ex_53 (QL_inr (by unfold px_leaf px_word; rw [if_neg hq, if_neg (fun zz => zz hnu), if_neg (by rw [hod]; exact fun zz => absurd zz.1 (by decide)), if_neg (by rw [hod]; exact fun zz => absurd zz.1 (by decide)), hj, Int.toNat_natCast]) r1 (by subst hod; exact MS_wL o1 (by omega)) f1)
theorem c_leafQ {d : Nat} {G : am_G} {I : Nat → Nat → Int} {P : Nat → Nat → Option Nat} (hS : ST G P) {b : Nat → Int} {n : Nat} (hB : TB b n) {od : Bool} {s l c p op : Nat} (hR : MR I b n od s l c p op) (h91 : ¬ tk b n s = [91]) : ∃ o, am_call am_B am_M (d + 5) 216 [.inr (.inr (some 208))] (G, I, P) = some o ∧ QL G P b n od I c p op 3 (px_leaf b n od s l) o := by
  have hs := MR_s hR
  have hnw := num_wo (b := b) hs
  have hnb := num_b (b := b) hs
  have hl50 := MR_l hR
  cases hod : od with
  | true =>
    subst hod
    have hwn := wrd_numo (b := b) hs (od := true) rfl
    by_cases hq : (num b n s = -1 ∧ wrd true (tk b n s) = -1) ∨ 1000 < num b n s ∨ 50 ≤ l
    · by_cases h1 : wrd true (tk b n s) = -1
      · by_cases h2 : ms b n s = 2
        · have h3 := hnw.2 h2
          by_cases h4 : wo b n s ≤ 1000
          · exact cl_bfo hS hB hR h91 rfl hq h1 h2 h4 (by omega)
          · exact cl_co hS hB hR h91 rfl hq h1 (fun _ => by omega)
        · exact cl_co hS hB hR h91 rfl hq h1 (fun z => absurd z h2)
      · have hnu := hwn.resolve_right h1
        have hrng := ooI_rng (t := tk b n s) OWs 0
        have hwe : wrd true (tk b n s) = ooI OWs 0 (tk b n s) := rfl
        exact cl_afo hS hB hR h91 rfl hq (j := (wrd true (tk b n s)).toNat) (by omega) (fun z => hnw.1.mp z hnu) hnu (by omega)
    · by_cases h1 : wrd true (tk b n s) = -1
      · have h2 : ms b n s = 2 := hnw.1.mpr (fun z => hq (Or.inl ⟨z, h1⟩))
        have h3 := hnw.2 h2
        exact cl_bo hS hB hR h91 rfl hq h1 h2 (by omega)
      · have hnu := hwn.resolve_right h1
        have hrng := ooI_rng (t := tk b n s) OWs 0
        have hwe : wrd true (tk b n s) = ooI OWs 0 (tk b n s) := rfl
        have hln : OWs.length = 7 := rfl
        have h2 : ¬ ms b n s = 2 := fun z => hnw.1.mp z hnu
        have hlt := wrd_lt (b := b) (od := true) hs h1
        have hnx := nx_2 (b := b) s hlt
        have hnw2 := num_wo (b := b) hnx.2
        by_cases h5 : wrd true (tk b n s) = 5
        · by_cases hw : 0 ≤ num b n (nx b n s) ∧ num b n (nx b n s) < 6
          · have hm2 : ms b n (nx b n s) = 2 := hnw2.1.mpr (by omega)
            have := hnw2.2 hm2
            exact cl_at_t hS hB hR h91 rfl hq (j := 5) h5 h2 hnu rfl hm2 (by omega)
          · exact cl_at_f hS hB hR h91 rfl hq (j := 5) h5 h2 hnu rfl hw
        · by_cases h6 : wrd true (tk b n s) = 6
          · by_cases hw : 0 ≤ num b n (nx b n s) ∧ num b n (nx b n s) < 5
            · have hm2 : ms b n (nx b n s) = 2 := hnw2.1.mpr (by omega)
              have := hnw2.2 hm2
              exact cl_busy_t hS hB hR h91 rfl hq (j := 6) h6 h2 hnu rfl hm2 (by omega)
            · exact cl_busy_f hS hB hR h91 rfl hq (j := 6) h6 h2 hnu rfl hw
          · exact cl_ao hS hB hR h91 rfl hq (j := (wrd true (tk b n s)).toNat) (by omega) h2 hnu (by omega)
  | false =>
    subst hod
    have hwn := wrd_numl (b := b) hs (od := false) rfl
    by_cases hq : (num b n s = -1 ∧ wrd false (tk b n s) = -1) ∨ 1000 < num b n s ∨ 50 ≤ l
    · by_cases h1 : wrd false (tk b n s) = -1
      · by_cases h2 : ms b n s = 2
        · have h3 := hnw.2 h2
          by_cases h4 : wo b n s ≤ 1000
          · exact cl_bfl hS hB hR h91 rfl hq h1 h2 h4 (by omega)
          · exact cl_cl hS hB hR h91 rfl hq h1 (fun _ => by omega)
        · exact cl_cl hS hB hR h91 rfl hq h1 (fun z => absurd z h2)
      · have hnu := hwn.resolve_right h1
        have hrng := ooI_rng (t := tk b n s) LWs 0
        have hwe : wrd false (tk b n s) = ooI LWs 0 (tk b n s) := rfl
        exact cl_afl hS hB hR h91 rfl hq (j := (wrd false (tk b n s)).toNat) (by omega) (fun z => hnw.1.mp z hnu) hnu (by omega)
    · by_cases h1 : wrd false (tk b n s) = -1
      · have h2 : ms b n s = 2 := hnw.1.mpr (fun z => hq (Or.inl ⟨z, h1⟩))
        have h3 := hnw.2 h2
        exact cl_bl hS hB hR h91 rfl hq h1 h2 (by omega)
      · have hnu := hwn.resolve_right h1
        have hrng := ooI_rng (t := tk b n s) LWs 0
        have hwe : wrd false (tk b n s) = ooI LWs 0 (tk b n s) := rfl
        exact cl_al hS hB hR h91 rfl hq (j := (wrd false (tk b n s)).toNat) (by omega) (fun z => hnw.1.mp z hnu) hnu
