/-! ===== tokens of the reference ===== -/
def ww1 (b : Nat → Int) (s i : Nat) (w : Int) : Int := if (i : Int) - (s : Int) < 10 then w * 32 + b i - 96 else -1
def wwd (b : Nat → Int) (s k : Nat) : Int := am_it (fun i w => ww1 b s i w) k s 0
def wd1 (b : Nat → Int) (i : Nat) (w : Int) : Int := if 1000000 < w then w else w * 10 + b i - 48
def wdg (b : Nat → Int) (s k : Nat) : Int := am_it (fun i w => wd1 b i w) k s 0
def ms (b : Nat → Int) (n s : Nat) : Int := if s < n then (if srt (b s) = 1 then 1 else if srt (b s) = 2 then 2 else 3) else 0
def wo (b : Nat → Int) (n s : Nat) : Int := if s < n then (if srt (b s) = 1 then wwd b s (en b n s - s) else if srt (b s) = 2 then wdg b s (en b n s - s) else b s) else 0
/-- the token as the reference holds it -/
def MK (I : Nat → Nat → Int) (b : Nat → Int) (n s : Nat) : Prop := I 208 13 = (n : Int) ∧ I 208 14 = (s : Int) ∧ I 208 15 = (en b n s : Int) ∧ I 208 16 = ms b n s ∧ I 208 17 = wo b n s ∧ ∀ k, k < n → I 217 k = b k
def MKF (I J : Nat → Nat → Int) : Prop := ∀ q k, ¬ (q = 208 ∧ 14 ≤ k ∧ k ≤ 17) → J q k = I q k
theorem wwd_succ {b : Nat → Int} {s k : Nat} : wwd b s (k + 1) = ww1 b s (s + k) (wwd b s k) := am_it_succ (fun i w => ww1 b s i w) k s 0
theorem wdg_succ {b : Nat → Int} {s k : Nat} : wdg b s (k + 1) = wd1 b (s + k) (wdg b s k) := am_it_succ (fun i w => wd1 b i w) k s 0
theorem wwd_b {b : Nat → Int} {s : Nat} : ∀ (k : Nat), (∀ i, i < k → 97 ≤ b (s + i) ∧ b (s + i) ≤ 122) → (k ≤ 10 → 0 ≤ wwd b s k ∧ wwd b s k < (32 : Int) ^ k) ∧ (10 < k → wwd b s k = -1)
  | 0, _ => ⟨fun _ => ⟨Int.le_refl _, by show (0 : Int) < 32 ^ 0; decide⟩, fun h => by omega⟩
  | k + 1, h => by
    have ih := wwd_b k (fun i hi => h i (by omega))
    have hk := h k (by omega)
    rw [wwd_succ]
    unfold ww1
    refine ⟨fun h10 => ?_, fun h10 => ?_⟩
    · rw [if_pos (by omega)]
      have := ih.1 (by omega)
      rw [Int.pow_succ]
      omega
    · rw [if_neg (by omega)]
theorem wwd_r {b : Nat → Int} {s k : Nat} (h : ∀ i, i < k → 97 ≤ b (s + i) ∧ b (s + i) ≤ 122) : -1 ≤ wwd b s k ∧ wwd b s k ≤ 1125899906842624 := by
  have := wwd_b k h
  by_cases hk : k ≤ 10
  · have h1 := this.1 hk
    have h2 : (32 : Int) ^ k ≤ (32 : Int) ^ 10 := by
      have := Nat.pow_le_pow_right (n := 32) (by decide) hk
      exact_mod_cast this
    have h3 : (32 : Int) ^ 10 = 1125899906842624 := by decide
    omega
  · have h1 := this.2 (by omega)
    omega
theorem wdg_b {b : Nat → Int} {s : Nat} : ∀ (k : Nat), (∀ i, i < k → 48 ≤ b (s + i) ∧ b (s + i) ≤ 57) → 0 ≤ wdg b s k ∧ wdg b s k ≤ 10000009
  | 0, _ => ⟨Int.le_refl _, by show (0 : Int) ≤ 10000009; decide⟩
  | k + 1, h => by
    have ih := wdg_b k (fun i hi => h i (by omega))
    have hk := h k (by omega)
    rw [wdg_succ]
    unfold wd1
    split <;> omega
theorem c_isSmall_t {d : Nat} {G : am_G} {I : Nat → Nat → Int} {P : Nat → Nat → Option Nat} {v : Int} (h : srt v = 1) : am_call am_B am_M (d + 1) 197 [(.inl v)] (G, I, P) = some (some (.inl 1), (G, I, P)) := by
  have hv := srt1 h
  refine am_doL (L := [some (.inl v)]) (Nat.le_of_ble_eq_true rfl) rfl ?_
  refine (ex_4_0 (ex_0 ?_))
  refine ex_ic2 (fun hc3 => by exfalso; omega) (fun hc3 => ?_)
  refine (ex_4_0 (ex_0 ?_))
  refine ex_ic4 (fun hc9 => by exfalso; omega) (fun hc9 => ?_)
  refine (ex_0 (ex_28 ?_))
  exact ex_57 (by decide) rfl
theorem c_isSmall_f {d : Nat} {G : am_G} {I : Nat → Nat → Int} {P : Nat → Nat → Option Nat} {v : Int} (h : ¬ srt v = 1) : am_call am_B am_M (d + 1) 197 [(.inl v)] (G, I, P) = some (some (.inl 0), (G, I, P)) := by
  refine am_doL (L := [some (.inl v)]) (Nat.le_of_ble_eq_true rfl) rfl ?_
  refine (ex_4_0 (ex_0 ?_))
  refine ex_ic2 (fun hc3 => ?_) (fun hc3 => ?_)
  · refine (ex_0 (ex_58 ?_))
    exact ex_57 (by decide) rfl
  · refine (ex_4_0 (ex_0 ?_))
    refine ex_ic4 (fun hc9 => ?_) (fun hc9 => by exact absurd (by unfold srt; rw [if_pos ⟨by omega, by omega⟩]) h)
    refine (ex_0 (ex_58 ?_))
    exact ex_57 (by decide) rfl
theorem c_isDigit_t {d : Nat} {G : am_G} {I : Nat → Nat → Int} {P : Nat → Nat → Option Nat} {v : Int} (h : srt v = 2) : am_call am_B am_M (d + 1) 198 [(.inl v)] (G, I, P) = some (some (.inl 1), (G, I, P)) := by
  have hv := srt2 h
  refine am_doL (L := [some (.inl v)]) (Nat.le_of_ble_eq_true rfl) rfl ?_
  refine (ex_4_0 (ex_0 ?_))
  refine ex_ic2 (fun hc3 => by exfalso; omega) (fun hc3 => ?_)
  refine (ex_4_0 (ex_0 ?_))
  refine ex_ic4 (fun hc9 => by exfalso; omega) (fun hc9 => ?_)
  refine (ex_0 (ex_28 ?_))
  exact ex_57 (by decide) rfl
theorem c_isDigit_f {d : Nat} {G : am_G} {I : Nat → Nat → Int} {P : Nat → Nat → Option Nat} {v : Int} (h : ¬ srt v = 2) : am_call am_B am_M (d + 1) 198 [(.inl v)] (G, I, P) = some (some (.inl 0), (G, I, P)) := by
  refine am_doL (L := [some (.inl v)]) (Nat.le_of_ble_eq_true rfl) rfl ?_
  refine (ex_4_0 (ex_0 ?_))
  refine ex_ic2 (fun hc3 => ?_) (fun hc3 => ?_)
  · refine (ex_0 (ex_58 ?_))
    exact ex_57 (by decide) rfl
  · refine (ex_4_0 (ex_0 ?_))
    refine ex_ic4 (fun hc9 => ?_) (fun hc9 => by exact absurd (by unfold srt; rw [if_neg (by omega), if_pos ⟨by omega, by omega⟩]) h)
    refine (ex_0 (ex_58 ?_))
    exact ex_57 (by decide) rfl
theorem l_next20n {d : Nat} {G : am_G} {I : Nat → Nat → Int} {P : Nat → Nat → Option Nat} (hS : ST G P) {b : Nat → Int} {n : Nat} (hB : TB b n) {s : Nat} (hs : s ≤ n) (hn : I 208 13 = (n : Int)) (hb : ∀ k, k < n → I 217 k = b k) (h14 : I 208 14 = (s : Int)) {t : Int} (h16 : I 208 16 = t) (ht : ¬ t = 2) (h15 : I 208 15 = (en b n s : Int)) (h16b : t = ms b n s) (h17 : I 208 17 = wo b n s) : am_ex (am_call am_B am_M (d + 1)) (am_B 200) (am_B 200 20) [some (.inr (.inr (some 208)))] [] (G, I, P) (fun o => ∃ I1, o = (none, (G, I1, P)) ∧ (I1 208 14 = (s : Int) ∧ I1 208 15 = (en b n s : Int) ∧ I1 208 16 = ms b n s ∧ I1 208 17 = wo b n s ∧ MKF I I1)) := by
  refine (ex_6_0 (ix_41i (v := t) (sh_208 hS) h16 (ex_0 ?_)))
  refine ex_ic1 (fun hc248 => ?_) (fun hc248 => by exfalso; omega)
  exact ex_56 ⟨_, rfl, h14, h15, h16.trans h16b, h17, fun _ _ _ => rfl⟩
theorem l_next20d {d : Nat} {G : am_G} {I : Nat → Nat → Int} {P : Nat → Nat → Option Nat} (hS : ST G P) {b : Nat → Int} {n : Nat} (hB : TB b n) {s : Nat} (hs : s ≤ n) (hn : I 208 13 = (n : Int)) (hb : ∀ k, k < n → I 217 k = b k) (h14 : I 208 14 = (s : Int)) (hl : s < n) (h16 : I 208 16 = 2) (hsr : srt (b s) = 2) (h15 : I 208 15 = (s : Int)) (h17 : I 208 17 = 0) : am_ex (am_call am_B am_M (d + 1)) (am_B 200) (am_B 200 20) [some (.inr (.inr (some 208)))] [] (G, I, P) (fun o => ∃ I1, o = (none, (G, I1, P)) ∧ (I1 208 14 = (s : Int) ∧ I1 208 15 = (en b n s : Int) ∧ I1 208 16 = ms b n s ∧ I1 208 17 = wo b n s ∧ MKF I I1)) := by
  have hn4 := hB.1
  have he := en_b (b := b) hs
  have hfe : fnd (fun i => decide (¬ srt (b i) = 2)) (n - s) s = en b n s := by
    unfold en
    rw [if_pos hl, show n - s = (n - (s + 1)) + 1 by omega, fnd_sk (fun z => absurd hsr (of_decide_eq_true z))]
    exact fnd_congr _ _ (fun x _ _ => by rw [hsr]; exact decide_eq_decide.mpr ⟨fun z => Or.inr z, fun z => z.resolve_left (by decide)⟩)
  refine ex_whR (b := 20) (fun i => decide (¬ srt (b i) = 2)) (n) ((en b n s)) (fun i J => J 208 15 = (i : Int) ∧ J 208 17 = wdg b s (i - s) ∧ s ≤ i ∧ (∀ j, s ≤ j → j < i → srt (b j) = 2) ∧ (∀ q k, ¬ (q = 208 ∧ (k = 15 ∨ k = 17)) → J q k = I q k)) (fun i e_i => [some (.inr (.inr (some 208)))]) ?_ ?_ (n - s) (s) (fun k_ => ([some (.inr (.inr (some 208)))] : am_L).getD k_ none) (I) (by omega) (hfe) (⟨h15, h17.trans (by rw [Nat.sub_self]; rfl), Nat.le_refl _, fun j a b => absurd b (by omega), fun _ _ _ => rfl⟩) rfl
  · intro i e_i J hii hpi hvi hki
    obtain ⟨hv0, hv1, hvs, hvj, hv2⟩ := hvi
    have hq := Decidable.not_not.mp (fun z => hpi (decide_eq_true z))
    have hbi := srt2 hq
    have hwb := wdg_b (i - s) (b := b) (s := s) (fun x hx => srt2 (hvj _ (by omega) (by omega)))
    have hsu : wdg b s (i + 1 - s) = wd1 b i (wdg b s (i - s)) := by rw [show i + 1 - s = (i - s) + 1 by omega, wdg_succ, show s + (i - s) = i by omega]
    refine (ex_6_0 (ix_41i (v := 2) (sh_208 hS) ((hv2 _ _ (by omega)).trans h16) (ex_0 (ex_ic1 (fun hc => by exfalso; revert hc; decide) (fun _ => ?_)))))
    refine (ex_6_0 (ix_41i (v := (i : Int)) (sh_208 hS) hv0 (ex_6_0 (ix_41i (v := (n : Int)) (sh_208 hS) ((hv2 _ _ (by omega)).trans hn) ?_))))
    refine ex_ic3 (fun hc259 => by exfalso; omega) (fun hc259 => ?_)
    refine (ex_6_0 (ix_41r (sh_208 hS) (pt_208_12 hS) (ex_6_0 (ix_41i (v := (i : Int)) (sh_208 hS) hv0 (ix_30 (j := i) (v := (b i)) (sh_217 hS) (by omega) (by omega) (by omega) ((hv2 _ _ (by omega)).trans (hb i hii)) ?_)))))
    have hb271 : (srt (b i) = 2) := by exact hq
    refine (ix_45 (S' := [(.inl 1)]) rfl (c_isDigit_t hb271) rfl rfl (ex_if0 (fun hc => by exfalso; revert hc; decide) (fun _ => ?_)))
    refine (ex_6_0 (ex_6_0 (ix_41l (v := (wdg b s (i - s))) (sh_208 hS) hv1 (ex_1 ?_))))
    refine ex_lc5 (fun hc286 => ?_) (fun hc286 => ?_)
    · refine (ex_6_0 (ix_41l (v := (wdg b s (i - s))) (sh_208 hS) hv1 (ex_1 (ex_lmul ⟨by omega, by omega⟩ (ex_6_0 (ix_41r (sh_208 hS) (pt_208_12 hS) (ex_6_0 (ix_41i (v := (i : Int)) (sh_208 hS) hv0 (ix_30 (j := i) (v := (b i)) (sh_217 hS) (by omega) (by omega) (by omega) ((hv2 _ _ (by omega)).trans (hb i hii)) (ex_19 (ex_ladd ⟨by omega, by omega⟩ (ex_1 (ex_lsub ⟨by omega, by omega⟩ (ex_58 (ix_42l (sh_208 hS) (ex_6_0 (ex_22 rfl (ix_41i (v := (i : Int)) (sh_208 hS) ((u2_k (by decide)).trans hv0) (ex_0 (ex_add ⟨by omega, by omega⟩ (ix_42i (sh_208 hS) (ex_28 ?_))))))))))))))))))))))
      exact hki (fun k_ => ([some (.inr (.inr (some 208)))] : am_L).getD k_ none) _ (⟨u2_e, (u2_k (by decide)).trans (u2_e.trans (by rw [hsu]; unfold wd1; rw [if_neg (by omega)])), by omega, fun j a c => (by by_cases e : j = i; (rw [e]; exact hq); exact hvj j a (by omega)), fun q k h => (u2_o (by omega)).trans ((u2_o (by omega)).trans (hv2 q k h))⟩)
    · refine (ex_6_0 (ix_41l (v := (wdg b s (i - s))) (sh_208 hS) hv1 (ex_28 (ix_42l (sh_208 hS) (ex_6_0 (ex_22 rfl (ix_41i (v := (i : Int)) (sh_208 hS) ((u2_k (by decide)).trans hv0) (ex_0 (ex_add ⟨by omega, by omega⟩ (ix_42i (sh_208 hS) (ex_28 ?_)))))))))))
      exact hki (fun k_ => ([some (.inr (.inr (some 208)))] : am_L).getD k_ none) _ (⟨u2_e, (u2_k (by decide)).trans (u2_e.trans (by rw [hsu]; unfold wd1; rw [if_pos (by omega)])), by omega, fun j a c => (by by_cases e : j = i; (rw [e]; exact hq); exact hvj j a (by omega)), fun q k h => (u2_o (by omega)).trans ((u2_o (by omega)).trans (hv2 q k h))⟩)
  · intro e_i J hzi hpi hvi
    obtain ⟨hv0, hv1, hvs, hvj, hv2⟩ := hvi
    have hzq : en b n s < n → ¬ srt (b (en b n s)) = 2 := fun q => of_decide_eq_true (hpi q)
    refine (ex_6_0 (ix_41i (v := 2) (sh_208 hS) ((hv2 _ _ (by omega)).trans h16) (ex_0 (ex_ic1 (fun hc => by exfalso; revert hc; decide) (fun _ => ?_)))))
    refine (ex_6_0 (ix_41i (v := ((en b n s) : Int)) (sh_208 hS) hv0 (ex_6_0 (ix_41i (v := (n : Int)) (sh_208 hS) ((hv2 _ _ (by omega)).trans hn) ?_))))
    refine ex_ic3 (fun hc259 => ?_) (fun hc259 => ?_)
    · exact ex_56 ⟨_, rfl, (hv2 _ _ (by omega)).trans h14, hv0, (hv2 _ _ (by omega)).trans (h16.trans (by unfold ms; rw [if_pos hl, if_neg (by omega), if_pos hsr])), hv1.trans (by unfold wo; rw [if_pos hl, if_neg (by omega), if_pos hsr]), fun q k h => hv2 q k (by omega)⟩
    · refine (ex_6_0 (ix_41r (sh_208 hS) (pt_208_12 hS) (ex_6_0 (ix_41i (v := ((en b n s) : Int)) (sh_208 hS) hv0 (ix_30 (j := (en b n s)) (v := (b (en b n s))) (sh_217 hS) (by omega) (by omega) (by omega) ((hv2 _ _ (by omega)).trans (hb _ (by omega))) ?_)))))
      have hb271 : ¬ ((srt (b (en b n s)) = 2)) := by exact hzq (by omega)
      refine (ix_45 (S' := [(.inl 0)]) rfl (c_isDigit_f hb271) rfl rfl (ex_if0 (fun _ => ?_) (fun hc => by exfalso; revert hc; decide)))
      exact ex_56 ⟨_, rfl, (hv2 _ _ (by omega)).trans h14, hv0, (hv2 _ _ (by omega)).trans (h16.trans (by unfold ms; rw [if_pos hl, if_neg (by omega), if_pos hsr])), hv1.trans (by unfold wo; rw [if_pos hl, if_neg (by omega), if_pos hsr]), fun q k h => hv2 q k (by omega)⟩
theorem l_next13w {d : Nat} {G : am_G} {I : Nat → Nat → Int} {P : Nat → Nat → Option Nat} (hS : ST G P) {b : Nat → Int} {n : Nat} (hB : TB b n) {s : Nat} (hs : s ≤ n) (hn : I 208 13 = (n : Int)) (hb : ∀ k, k < n → I 217 k = b k) (h14 : I 208 14 = (s : Int)) (hl : s < n) (h16 : I 208 16 = 1) (hsr : srt (b s) = 1) (h15 : I 208 15 = (s : Int)) (h17 : I 208 17 = 0) : am_ex (am_call am_B am_M (d + 1)) (am_B 200) (am_B 200 13) [some (.inr (.inr (some 208)))] [] (G, I, P) (fun o => ∃ I1, o = (none, (G, I1, P)) ∧ (I1 208 14 = (s : Int) ∧ I1 208 15 = (en b n s : Int) ∧ I1 208 16 = ms b n s ∧ I1 208 17 = wo b n s ∧ MKF I I1)) := by
  have hn4 := hB.1
  have he := en_b (b := b) hs
  have hfe : fnd (fun i => decide (¬ srt (b i) = 1)) (n - s) s = en b n s := by
    unfold en
    rw [if_pos hl, show n - s = (n - (s + 1)) + 1 by omega, fnd_sk (fun z => absurd hsr (of_decide_eq_true z))]
    exact fnd_congr _ _ (fun x _ _ => by rw [hsr]; exact decide_eq_decide.mpr ⟨fun z => Or.inr z, fun z => z.resolve_left (by decide)⟩)
  refine ex_whR (b := 13) (fun i => decide (¬ srt (b i) = 1)) (n) ((en b n s)) (fun i J => J 208 15 = (i : Int) ∧ J 208 17 = wwd b s (i - s) ∧ s ≤ i ∧ (∀ j, s ≤ j → j < i → srt (b j) = 1) ∧ (∀ q k, ¬ (q = 208 ∧ (k = 15 ∨ k = 17)) → J q k = I q k)) (fun i e_i => [some (.inr (.inr (some 208)))]) ?_ ?_ (n - s) (s) (fun k_ => ([some (.inr (.inr (some 208)))] : am_L).getD k_ none) (I) (by omega) (hfe) (⟨h15, h17.trans (by rw [Nat.sub_self]; rfl), Nat.le_refl _, fun j a b => absurd b (by omega), fun _ _ _ => rfl⟩) rfl
  · intro i e_i J hii hpi hvi hki
    obtain ⟨hv0, hv1, hvs, hvj, hv2⟩ := hvi
    have hq := Decidable.not_not.mp (fun z => hpi (decide_eq_true z))
    have hbi := srt1 hq
    have hwb := wwd_r (k := i - s) (b := b) (s := s) (fun x hx => srt1 (hvj _ (by omega) (by omega)))
    have hsu : wwd b s (i + 1 - s) = ww1 b s i (wwd b s (i - s)) := by rw [show i + 1 - s = (i - s) + 1 by omega, wwd_succ, show s + (i - s) = i by omega]
    refine (ex_6_0 (ix_41i (v := 1) (sh_208 hS) ((hv2 _ _ (by omega)).trans h16) (ex_0 (ex_ic1 (fun hc => by exfalso; revert hc; decide) (fun _ => ?_)))))
    refine (ex_6_0 (ix_41i (v := (i : Int)) (sh_208 hS) hv0 (ex_6_0 (ix_41i (v := (n : Int)) (sh_208 hS) ((hv2 _ _ (by omega)).trans hn) ?_))))
    refine ex_ic3 (fun hc165 => by exfalso; omega) (fun hc165 => ?_)
    refine (ex_6_0 (ix_41r (sh_208 hS) (pt_208_12 hS) (ex_6_0 (ix_41i (v := (i : Int)) (sh_208 hS) hv0 (ix_30 (j := i) (v := (b i)) (sh_217 hS) (by omega) (by omega) (by omega) ((hv2 _ _ (by omega)).trans (hb i hii)) ?_)))))
    have hb177 : (srt (b i) = 1) := by exact hq
    refine (ix_45 (S' := [(.inl 1)]) rfl (c_isSmall_t hb177) rfl rfl (ex_if0 (fun hc => by exfalso; revert hc; decide) (fun _ => ?_)))
    refine (ex_6_0 (ex_6_0 (ix_41i (v := (i : Int)) (sh_208 hS) hv0 (ex_6_0 (ix_41i (v := (s : Int)) (sh_208 hS) ((hv2 _ _ (by omega)).trans h14) (ex_sub ⟨by omega, by omega⟩ (ex_0 ?_)))))))
    refine ex_ic3 (fun hc195 => ?_) (fun hc195 => ?_)
    · refine (ex_1 (ex_58 (ix_42l (sh_208 hS) (ex_6_0 (ex_22 rfl (ix_41i (v := (i : Int)) (sh_208 hS) ((u2_k (by decide)).trans hv0) (ex_0 (ex_add ⟨by omega, by omega⟩ (ix_42i (sh_208 hS) (ex_28 ?_))))))))))
      exact hki (fun k_ => ([some (.inr (.inr (some 208)))] : am_L).getD k_ none) _ (⟨u2_e, (u2_k (by decide)).trans (u2_e.trans (by rw [hsu]; unfold ww1; rw [if_neg (by omega)])), by omega, fun j a c => (by by_cases e : j = i; (rw [e]; exact hq); exact hvj j a (by omega)), fun q k h => (u2_o (by omega)).trans ((u2_o (by omega)).trans (hv2 q k h))⟩)
    · refine (ex_6_0 (ix_41l (v := (wwd b s (i - s))) (sh_208 hS) hv1 (ex_1 (ex_lmul ⟨by omega, by omega⟩ (ex_6_0 (ix_41r (sh_208 hS) (pt_208_12 hS) (ex_6_0 (ix_41i (v := (i : Int)) (sh_208 hS) hv0 (ix_30 (j := i) (v := (b i)) (sh_217 hS) (by omega) (by omega) (by omega) ((hv2 _ _ (by omega)).trans (hb i hii)) (ex_19 (ex_ladd ⟨by omega, by omega⟩ (ex_1 (ex_lsub ⟨by omega, by omega⟩ (ex_28 (ix_42l (sh_208 hS) (ex_6_0 (ex_22 rfl (ix_41i (v := (i : Int)) (sh_208 hS) ((u2_k (by decide)).trans hv0) (ex_0 (ex_add ⟨by omega, by omega⟩ (ix_42i (sh_208 hS) (ex_28 ?_))))))))))))))))))))))
      exact hki (fun k_ => ([some (.inr (.inr (some 208)))] : am_L).getD k_ none) _ (⟨u2_e, (u2_k (by decide)).trans (u2_e.trans (by rw [hsu]; unfold ww1; rw [if_pos (by omega)])), by omega, fun j a c => (by by_cases e : j = i; (rw [e]; exact hq); exact hvj j a (by omega)), fun q k h => (u2_o (by omega)).trans ((u2_o (by omega)).trans (hv2 q k h))⟩)
  · intro e_i J hzi hpi hvi
    obtain ⟨hv0, hv1, hvs, hvj, hv2⟩ := hvi
    have hzq : en b n s < n → ¬ srt (b (en b n s)) = 1 := fun q => of_decide_eq_true (hpi q)
    refine (ex_6_0 (ix_41i (v := 1) (sh_208 hS) ((hv2 _ _ (by omega)).trans h16) (ex_0 (ex_ic1 (fun hc => by exfalso; revert hc; decide) (fun _ => ?_)))))
    refine (ex_6_0 (ix_41i (v := ((en b n s) : Int)) (sh_208 hS) hv0 (ex_6_0 (ix_41i (v := (n : Int)) (sh_208 hS) ((hv2 _ _ (by omega)).trans hn) ?_))))
    refine ex_ic3 (fun hc165 => ?_) (fun hc165 => ?_)
    · obtain ⟨n_, o_, r_, I1, e1, g14, g15, g16, g17, gf⟩ := l_next20n (d := d) (t := 1) hS hB hs ((hv2 _ _ (by omega)).trans hn) (fun k hk => (hv2 _ _ (by omega)).trans (hb k hk)) ((hv2 _ _ (by omega)).trans h14) ((hv2 _ _ (by omega)).trans h16) (by decide) hv0 (by unfold ms; rw [if_pos hl, if_pos hsr]) (hv1.trans (by unfold wo; rw [if_pos hl, if_pos hsr]))
      exact ⟨n_, o_, r_, I1, e1, g14, g15, g16, g17, fun q k h => (gf q k h).trans (hv2 q k (by omega))⟩
    · refine (ex_6_0 (ix_41r (sh_208 hS) (pt_208_12 hS) (ex_6_0 (ix_41i (v := ((en b n s) : Int)) (sh_208 hS) hv0 (ix_30 (j := (en b n s)) (v := (b (en b n s))) (sh_217 hS) (by omega) (by omega) (by omega) ((hv2 _ _ (by omega)).trans (hb _ (by omega))) ?_)))))
      have hb177 : ¬ ((srt (b (en b n s)) = 1)) := by exact hzq (by omega)
      refine (ix_45 (S' := [(.inl 0)]) rfl (c_isSmall_f hb177) rfl rfl (ex_if0 (fun _ => ?_) (fun hc => by exfalso; revert hc; decide)))
      obtain ⟨n_, o_, r_, I1, e1, g14, g15, g16, g17, gf⟩ := l_next20n (d := d) (t := 1) hS hB hs ((hv2 _ _ (by omega)).trans hn) (fun k hk => (hv2 _ _ (by omega)).trans (hb k hk)) ((hv2 _ _ (by omega)).trans h14) ((hv2 _ _ (by omega)).trans h16) (by decide) hv0 (by unfold ms; rw [if_pos hl, if_pos hsr]) (hv1.trans (by unfold wo; rw [if_pos hl, if_pos hsr]))
      exact ⟨n_, o_, r_, I1, e1, g14, g15, g16, g17, fun q k h => (gf q k h).trans (hv2 q k (by omega))⟩
theorem l_next4w {d : Nat} {G : am_G} {I : Nat → Nat → Int} {P : Nat → Nat → Option Nat} (hS : ST G P) {b : Nat → Int} {n : Nat} (hB : TB b n) {s : Nat} (hs : s ≤ n) (hn : I 208 13 = (n : Int)) (hb : ∀ k, k < n → I 217 k = b k) (h14 : I 208 14 = (s : Int)) (hl : s < n) (hsr : srt (b s) = 1) : am_ex (am_call am_B am_M (d + 1)) (am_B 200) (am_B 200 4) [some (.inr (.inr (some 208)))] [] (G, I, P) (fun o => ∃ I1, o = (none, (G, I1, P)) ∧ (I1 208 14 = (s : Int) ∧ I1 208 15 = (en b n s : Int) ∧ I1 208 16 = ms b n s ∧ I1 208 17 = wo b n s ∧ MKF I I1)) := by
  have hn4 := hB.1
  refine (ex_6_0 (ex_6_0 (ix_41i (v := (s : Int)) (sh_208 hS) h14 (ix_42i (sh_208 hS) (ex_6_0 (ex_1 (ix_42l (sh_208 hS) (ex_6_0 (ex_6_0 (ix_41i (v := (s : Int)) (sh_208 hS) ((u2_k (by decide)).trans ((u2_k (by decide)).trans h14)) (ex_6_0 (ix_41i (v := (n : Int)) (sh_208 hS) ((u2_k (by decide)).trans ((u2_k (by decide)).trans hn)) ?_))))))))))))
  refine ex_ic1 (fun hc68 => ?_) (fun hc68 => by exfalso; omega)
  refine (ex_6_0 (ix_41r (sh_208 hS) (pt_208_12 hS) (ex_6_0 (ix_41i (v := (s : Int)) (sh_208 hS) ((u2_k (by decide)).trans ((u2_k (by decide)).trans h14)) (ix_30 (j := s) (v := (b s)) (sh_217 hS) (by omega) (by omega) (by omega) ((u2_q (by decide)).trans ((u2_q (by decide)).trans (hb s hl))) ?_)))))
  have hb84 : (srt (b s) = 1) := by omega
  refine (ix_45 (S' := [(.inl 1), (.inr (.inr (some 208)))]) rfl (c_isSmall_t hb84) rfl rfl (ex_if0 (fun hc => by exfalso; revert hc; decide) (fun _ => ?_)))
  refine (ex_0 (ex_28 (ix_42i (sh_208 hS) (ex_6_0 (ix_41i (v := 1) (sh_208 hS) u2_e (ex_0 (ex_ic1 (fun _ => ?_) (fun hc => by exfalso; revert hc; decide))))))))
  obtain ⟨n_, o_, r_, I1, e1, g14, g15, g16, g17, gf⟩ := l_next13w (d := d) (I := (am_u2 (am_u2 (am_u2 I 208 15 (s : Int)) 208 17 0) 208 16 1)) hS hB hs (((u2_k (by decide)).trans ((u2_k (by decide)).trans ((u2_k (by decide)).trans hn)))) (fun k hk => (u2_q (by decide)).trans ((u2_q (by decide)).trans ((u2_q (by decide)).trans (hb k hk)))) (((u2_k (by decide)).trans ((u2_k (by decide)).trans ((u2_k (by decide)).trans h14)))) hl (u2_e) hsr (((u2_k (by decide)).trans ((u2_k (by decide)).trans u2_e))) (((u2_k (by decide)).trans u2_e))
  exact ⟨n_, o_, r_, I1, e1, g14, g15, g16, g17, fun q k h => (gf q k h).trans ((u2_o (by omega)).trans ((u2_o (by omega)).trans (u2_o (by omega))))⟩
theorem l_next4d {d : Nat} {G : am_G} {I : Nat → Nat → Int} {P : Nat → Nat → Option Nat} (hS : ST G P) {b : Nat → Int} {n : Nat} (hB : TB b n) {s : Nat} (hs : s ≤ n) (hn : I 208 13 = (n : Int)) (hb : ∀ k, k < n → I 217 k = b k) (h14 : I 208 14 = (s : Int)) (hl : s < n) (hsr : srt (b s) = 2) : am_ex (am_call am_B am_M (d + 1)) (am_B 200) (am_B 200 4) [some (.inr (.inr (some 208)))] [] (G, I, P) (fun o => ∃ I1, o = (none, (G, I1, P)) ∧ (I1 208 14 = (s : Int) ∧ I1 208 15 = (en b n s : Int) ∧ I1 208 16 = ms b n s ∧ I1 208 17 = wo b n s ∧ MKF I I1)) := by
  have hn4 := hB.1
  refine (ex_6_0 (ex_6_0 (ix_41i (v := (s : Int)) (sh_208 hS) h14 (ix_42i (sh_208 hS) (ex_6_0 (ex_1 (ix_42l (sh_208 hS) (ex_6_0 (ex_6_0 (ix_41i (v := (s : Int)) (sh_208 hS) ((u2_k (by decide)).trans ((u2_k (by decide)).trans h14)) (ex_6_0 (ix_41i (v := (n : Int)) (sh_208 hS) ((u2_k (by decide)).trans ((u2_k (by decide)).trans hn)) ?_))))))))))))
  refine ex_ic1 (fun hc68 => ?_) (fun hc68 => by exfalso; omega)
  refine (ex_6_0 (ix_41r (sh_208 hS) (pt_208_12 hS) (ex_6_0 (ix_41i (v := (s : Int)) (sh_208 hS) ((u2_k (by decide)).trans ((u2_k (by decide)).trans h14)) (ix_30 (j := s) (v := (b s)) (sh_217 hS) (by omega) (by omega) (by omega) ((u2_q (by decide)).trans ((u2_q (by decide)).trans (hb s hl))) ?_)))))
  have hb84 : ¬ ((srt (b s) = 1)) := by omega
  refine (ix_45 (S' := [(.inl 0), (.inr (.inr (some 208)))]) rfl (c_isSmall_f hb84) rfl rfl (ex_if0 (fun _ => ?_) (fun hc => by exfalso; revert hc; decide)))
  refine (ex_6_0 (ix_41r (sh_208 hS) (pt_208_12 hS) (ex_6_0 (ix_41i (v := (s : Int)) (sh_208 hS) ((u2_k (by decide)).trans ((u2_k (by decide)).trans h14)) (ix_30 (j := s) (v := (b s)) (sh_217 hS) (by omega) (by omega) (by omega) ((u2_q (by decide)).trans ((u2_q (by decide)).trans (hb s hl))) ?_)))))
  have hb103 : (srt (b s) = 2) := by omega
  refine (ix_45 (S' := [(.inl 1), (.inr (.inr (some 208)))]) rfl (c_isDigit_t hb103) rfl rfl (ex_if0 (fun hc => by exfalso; revert hc; decide) (fun _ => ?_)))
  refine (ex_0 (ex_28 (ix_42i (sh_208 hS) (ex_6_0 (ix_41i (v := 2) (sh_208 hS) u2_e (ex_0 (ex_ic1 (fun _ => ?_) (fun hc => by exfalso; revert hc; decide))))))))
  refine (ex_6_0 (ix_41i (v := 2) (sh_208 hS) u2_e (ex_0 (ex_ic1 (fun _ => ?_) (fun hc => by exfalso; revert hc; decide)))))
  obtain ⟨n_, o_, r_, I1, e1, g14, g15, g16, g17, gf⟩ := l_next20d (d := d) (I := (am_u2 (am_u2 (am_u2 I 208 15 (s : Int)) 208 17 0) 208 16 2)) hS hB hs (((u2_k (by decide)).trans ((u2_k (by decide)).trans ((u2_k (by decide)).trans hn)))) (fun k hk => (u2_q (by decide)).trans ((u2_q (by decide)).trans ((u2_q (by decide)).trans (hb k hk)))) (((u2_k (by decide)).trans ((u2_k (by decide)).trans ((u2_k (by decide)).trans h14)))) hl (u2_e) hsr (((u2_k (by decide)).trans ((u2_k (by decide)).trans u2_e))) (((u2_k (by decide)).trans u2_e))
  exact ⟨n_, o_, r_, I1, e1, g14, g15, g16, g17, fun q k h => (gf q k h).trans ((u2_o (by omega)).trans ((u2_o (by omega)).trans (u2_o (by omega))))⟩
theorem l_next4s {d : Nat} {G : am_G} {I : Nat → Nat → Int} {P : Nat → Nat → Option Nat} (hS : ST G P) {b : Nat → Int} {n : Nat} (hB : TB b n) {s : Nat} (hs : s ≤ n) (hn : I 208 13 = (n : Int)) (hb : ∀ k, k < n → I 217 k = b k) (h14 : I 208 14 = (s : Int)) (hl : s < n) (h0 : srt (b s) = 0) : am_ex (am_call am_B am_M (d + 1)) (am_B 200) (am_B 200 4) [some (.inr (.inr (some 208)))] [] (G, I, P) (fun o => ∃ I1, o = (none, (G, I1, P)) ∧ (I1 208 14 = (s : Int) ∧ I1 208 15 = (en b n s : Int) ∧ I1 208 16 = ms b n s ∧ I1 208 17 = wo b n s ∧ MKF I I1)) := by
  have hn4 := hB.1
  refine (ex_6_0 (ex_6_0 (ix_41i (v := (s : Int)) (sh_208 hS) h14 (ix_42i (sh_208 hS) (ex_6_0 (ex_1 (ix_42l (sh_208 hS) (ex_6_0 (ex_6_0 (ix_41i (v := (s : Int)) (sh_208 hS) ((u2_k (by decide)).trans ((u2_k (by decide)).trans h14)) (ex_6_0 (ix_41i (v := (n : Int)) (sh_208 hS) ((u2_k (by decide)).trans ((u2_k (by decide)).trans hn)) ?_))))))))))))
  refine ex_ic1 (fun hc68 => ?_) (fun hc68 => by exfalso; omega)
  refine (ex_6_0 (ix_41r (sh_208 hS) (pt_208_12 hS) (ex_6_0 (ix_41i (v := (s : Int)) (sh_208 hS) ((u2_k (by decide)).trans ((u2_k (by decide)).trans h14)) (ix_30 (j := s) (v := (b s)) (sh_217 hS) (by omega) (by omega) (by omega) ((u2_q (by decide)).trans ((u2_q (by decide)).trans (hb s hl))) ?_)))))
  have hb84 : ¬ ((srt (b s) = 1)) := by omega
  refine (ix_45 (S' := [(.inl 0), (.inr (.inr (some 208)))]) rfl (c_isSmall_f hb84) rfl rfl (ex_if0 (fun _ => ?_) (fun hc => by exfalso; revert hc; decide)))
  refine (ex_6_0 (ix_41r (sh_208 hS) (pt_208_12 hS) (ex_6_0 (ix_41i (v := (s : Int)) (sh_208 hS) ((u2_k (by decide)).trans ((u2_k (by decide)).trans h14)) (ix_30 (j := s) (v := (b s)) (sh_217 hS) (by omega) (by omega) (by omega) ((u2_q (by decide)).trans ((u2_q (by decide)).trans (hb s hl))) ?_)))))
  have hb103 : ¬ ((srt (b s) = 2)) := by omega
  refine (ix_45 (S' := [(.inl 0), (.inr (.inr (some 208)))]) rfl (c_isDigit_f hb103) rfl rfl (ex_if0 (fun _ => ?_) (fun hc => by exfalso; revert hc; decide)))
  refine (ex_0 (ex_58 (ix_42i (sh_208 hS) (ex_6_0 (ix_41i (v := 3) (sh_208 hS) u2_e (ex_0 (ex_ic1 (fun hc => by exfalso; revert hc; decide) (fun _ => ?_))))))))
  refine (ex_6_0 (ex_6_0 (ix_41r (sh_208 hS) (pt_208_12 hS) (ex_6_0 (ix_41i (v := (s : Int)) (sh_208 hS) ((u2_k (by decide)).trans ((u2_k (by decide)).trans ((u2_k (by decide)).trans h14))) (ix_30 (j := s) (v := (b s)) (sh_217 hS) (by omega) (by omega) (by omega) ((u2_q (by decide)).trans ((u2_q (by decide)).trans ((u2_q (by decide)).trans (hb s hl)))) (ex_19 (ix_42l (sh_208 hS) (ex_6_0 (ex_22 rfl (ix_41i (v := (s : Int)) (sh_208 hS) ((u2_k (by decide)).trans ((u2_k (by decide)).trans ((u2_k (by decide)).trans u2_e))) (ex_0 (ex_add ⟨by omega, by omega⟩ (ix_42i (sh_208 hS) (ex_58 (ex_6_0 (ix_41i (v := 3) (sh_208 hS) ((u2_k (by decide)).trans ((u2_k (by decide)).trans u2_e)) (ex_0 (ex_ic1 (fun _ => ?_) (fun hc => by exfalso; revert hc; decide))))))))))))))))))))
  obtain ⟨n_, o_, r_, I1, e1, g14, g15, g16, g17, gf⟩ := l_next20n (d := d) (I := (am_u2 (am_u2 (am_u2 (am_u2 (am_u2 I 208 15 (s : Int)) 208 17 0) 208 16 3) 208 17 (b s)) 208 15 ((s : Int) + 1))) (t := 3) hS hB hs (((u2_k (by decide)).trans ((u2_k (by decide)).trans ((u2_k (by decide)).trans ((u2_k (by decide)).trans ((u2_k (by decide)).trans hn)))))) (fun k hk => (u2_q (by decide)).trans ((u2_q (by decide)).trans ((u2_q (by decide)).trans ((u2_q (by decide)).trans ((u2_q (by decide)).trans (hb k hk)))))) (((u2_k (by decide)).trans ((u2_k (by decide)).trans ((u2_k (by decide)).trans ((u2_k (by decide)).trans ((u2_k (by decide)).trans h14)))))) (((u2_k (by decide)).trans ((u2_k (by decide)).trans u2_e))) (by decide) ((u2_e).trans (by rw [en_0 hl h0]; rfl)) (by unfold ms; rw [if_pos hl, if_neg (by omega), if_neg (by omega)]) ((((u2_k (by decide)).trans u2_e)).trans (by unfold wo; rw [if_pos hl, if_neg (by omega), if_neg (by omega)]))
  exact ⟨n_, o_, r_, I1, e1, g14, g15, g16, g17, fun q k h => (gf q k h).trans ((u2_o (by omega)).trans ((u2_o (by omega)).trans ((u2_o (by omega)).trans ((u2_o (by omega)).trans (u2_o (by omega))))))⟩
theorem l_next4e {d : Nat} {G : am_G} {I : Nat → Nat → Int} {P : Nat → Nat → Option Nat} (hS : ST G P) {b : Nat → Int} {n : Nat} (hB : TB b n) {s : Nat} (hs : s ≤ n) (hn : I 208 13 = (n : Int)) (hb : ∀ k, k < n → I 217 k = b k) (h14 : I 208 14 = (s : Int)) (hl : ¬ s < n) : am_ex (am_call am_B am_M (d + 1)) (am_B 200) (am_B 200 4) [some (.inr (.inr (some 208)))] [] (G, I, P) (fun o => ∃ I1, o = (none, (G, I1, P)) ∧ (I1 208 14 = (s : Int) ∧ I1 208 15 = (en b n s : Int) ∧ I1 208 16 = ms b n s ∧ I1 208 17 = wo b n s ∧ MKF I I1)) := by
  have hn4 := hB.1
  refine (ex_6_0 (ex_6_0 (ix_41i (v := (s : Int)) (sh_208 hS) h14 (ix_42i (sh_208 hS) (ex_6_0 (ex_1 (ix_42l (sh_208 hS) (ex_6_0 (ex_6_0 (ix_41i (v := (s : Int)) (sh_208 hS) ((u2_k (by decide)).trans ((u2_k (by decide)).trans h14)) (ex_6_0 (ix_41i (v := (n : Int)) (sh_208 hS) ((u2_k (by decide)).trans ((u2_k (by decide)).trans hn)) ?_))))))))))))
  refine ex_ic1 (fun hc68 => by exfalso; omega) (fun hc68 => ?_)
  refine (ex_0 (ex_28 (ix_42i (sh_208 hS) (ex_6_0 (ix_41i (v := 0) (sh_208 hS) u2_e (ex_0 (ex_ic1 (fun _ => ?_) (fun hc => by exfalso; revert hc; decide))))))))
  refine (ex_6_0 (ix_41i (v := 0) (sh_208 hS) u2_e (ex_0 (ex_ic1 (fun _ => ?_) (fun hc => by exfalso; revert hc; decide)))))
  obtain ⟨n_, o_, r_, I1, e1, g14, g15, g16, g17, gf⟩ := l_next20n (d := d) (I := (am_u2 (am_u2 (am_u2 I 208 15 (s : Int)) 208 17 0) 208 16 0)) (t := 0) hS hB hs (((u2_k (by decide)).trans ((u2_k (by decide)).trans ((u2_k (by decide)).trans hn)))) (fun k hk => (u2_q (by decide)).trans ((u2_q (by decide)).trans ((u2_q (by decide)).trans (hb k hk)))) (((u2_k (by decide)).trans ((u2_k (by decide)).trans ((u2_k (by decide)).trans h14)))) (u2_e) (by decide) ((((u2_k (by decide)).trans ((u2_k (by decide)).trans u2_e))).trans (by unfold en; rw [if_neg hl]; omega)) (by unfold ms; rw [if_neg hl]) ((((u2_k (by decide)).trans u2_e)).trans (by unfold wo; rw [if_neg hl]))
  exact ⟨n_, o_, r_, I1, e1, g14, g15, g16, g17, fun q k h => (gf q k h).trans ((u2_o (by omega)).trans ((u2_o (by omega)).trans (u2_o (by omega))))⟩
theorem l_next4 {d : Nat} {G : am_G} {I : Nat → Nat → Int} {P : Nat → Nat → Option Nat} (hS : ST G P) {b : Nat → Int} {n : Nat} (hB : TB b n) {s : Nat} (hs : s ≤ n) (hn : I 208 13 = (n : Int)) (hb : ∀ k, k < n → I 217 k = b k) (h14 : I 208 14 = (s : Int)) : am_ex (am_call am_B am_M (d + 1)) (am_B 200) (am_B 200 4) [some (.inr (.inr (some 208)))] [] (G, I, P) (fun o => ∃ I1, o = (none, (G, I1, P)) ∧ (I1 208 14 = (s : Int) ∧ I1 208 15 = (en b n s : Int) ∧ I1 208 16 = ms b n s ∧ I1 208 17 = wo b n s ∧ MKF I I1)) := by
  by_cases hl : s < n
  · have h2 := srt_2 (b s)
    by_cases h : srt (b s) = 1
    · exact l_next4w (d := d) hS hB hs hn hb h14 hl h
    · by_cases h' : srt (b s) = 2
      · exact l_next4d (d := d) hS hB hs hn hb h14 hl h'
      · exact l_next4s (d := d) hS hB hs hn hb h14 hl (by omega)
  · exact l_next4e (d := d) hS hB hs hn hb h14 hl
theorem c_nextP {d : Nat} {G : am_G} {I : Nat → Nat → Int} {P : Nat → Nat → Option Nat} (hS : ST G P) {b : Nat → Int} {n : Nat} (hB : TB b n) {p : Nat} (hn : I 208 13 = (n : Int)) (hp : I 208 15 = (p : Int)) (hpn : p ≤ n) (hb : ∀ k, k < n → I 217 k = b k) : ∃ I1, am_call am_B am_M (d + 2) 200 [(.inr (.inr (some 208)))] (G, I, P) = some (none, (G, I1, P)) ∧ (I1 208 14 = (sk b n p : Int) ∧ I1 208 15 = (en b n (sk b n p) : Int) ∧ I1 208 16 = ms b n (sk b n p) ∧ I1 208 17 = wo b n (sk b n p) ∧ MKF I I1) := by
  have hn4 := hB.1
  have w : am_ex (am_call am_B am_M (d + 1)) (am_B 200) (am_B 200 0) [some (.inr (.inr (some 208)))] [] (G, I, P) (fun o => ∃ I1, o = (none, (G, I1, P)) ∧ (I1 208 14 = (sk b n p : Int) ∧ I1 208 15 = (en b n (sk b n p) : Int) ∧ I1 208 16 = ms b n (sk b n p) ∧ I1 208 17 = wo b n (sk b n p) ∧ MKF I I1)) := by
    refine (ex_6_0 (ex_6_0 (ix_41i (v := (p : Int)) (sh_208 hS) hp (ix_42i (sh_208 hS) (ex_58 ?_)))))
    refine ex_whR (b := 1) (fun i => decide (¬ b i = 32)) (n) ((sk b n p)) (fun i J => J 208 14 = (i : Int) ∧ (∀ q k, ¬ (q = 208 ∧ k = 14) → J q k = I q k)) (fun i e_i => [some (.inr (.inr (some 208)))]) ?_ ?_ (n - p) (p) (fun k_ => ([some (.inr (.inr (some 208)))] : am_L).getD k_ none) ((am_u2 I 208 14 (p : Int))) (by omega) (rfl) (⟨u2_e, fun q k h => u2_o h⟩) rfl
    · intro i e_i J hii hpi hvi hki
      obtain ⟨hv0, hv1⟩ := hvi
      have h32 := Decidable.not_not.mp (fun z => hpi (decide_eq_true z))
      refine (ex_6_0 (ix_41i (v := (i : Int)) (sh_208 hS) hv0 (ex_6_0 (ix_41i (v := (n : Int)) (sh_208 hS) ((hv1 _ _ (by omega)).trans hn) ?_))))
      refine ex_ic3 (fun hc16 => by exfalso; omega) (fun hc16 => ?_)
      refine (ex_6_0 (ix_41r (sh_208 hS) (pt_208_12 hS) (ex_6_0 (ix_41i (v := (i : Int)) (sh_208 hS) hv0 (ix_30 (j := i) (v := (b i)) (sh_217 hS) (by omega) (by omega) (by omega) ((hv1 _ _ (by omega)).trans (hb i hii)) (ex_0 ?_))))))
      refine ex_ic1 (fun hc30 => by exact absurd h32 hc30) (fun hc30 => ?_)
      refine (ex_6_0 (ex_22 rfl (ix_41i (v := (i : Int)) (sh_208 hS) hv0 (ex_0 (ex_add ⟨by omega, by omega⟩ (ix_42i (sh_208 hS) (ex_28 ?_)))))))
      exact hki (fun k_ => ([some (.inr (.inr (some 208)))] : am_L).getD k_ none) _ (⟨u2_e, fun q k h => (u2_o h).trans (hv1 q k h)⟩)
    · intro e_i J hzi hpi hvi
      obtain ⟨hv0, hv1⟩ := hvi
      have hz32 : sk b n p < n → ¬ b (sk b n p) = 32 := fun q => of_decide_eq_true (hpi q)
      refine (ex_6_0 (ix_41i (v := ((sk b n p) : Int)) (sh_208 hS) hv0 (ex_6_0 (ix_41i (v := (n : Int)) (sh_208 hS) ((hv1 _ _ (by omega)).trans hn) ?_))))
      refine ex_ic3 (fun hc16 => ?_) (fun hc16 => ?_)
      · obtain ⟨n_, o_, r_, I1, e1, g14, g15, g16, g17, gf⟩ := l_next4 (d := d) hS hB (s := sk b n p) (by omega) ((hv1 _ _ (by omega)).trans hn) (fun k hk => (hv1 _ _ (by omega)).trans (hb k hk)) hv0
        exact ⟨n_, o_, r_, I1, e1, g14, g15, g16, g17, fun q k h => (gf q k h).trans (hv1 q k (by omega))⟩
      · refine (ex_6_0 (ix_41r (sh_208 hS) (pt_208_12 hS) (ex_6_0 (ix_41i (v := ((sk b n p) : Int)) (sh_208 hS) hv0 (ix_30 (j := (sk b n p)) (v := (b (sk b n p))) (sh_217 hS) (by omega) (by omega) (by omega) ((hv1 _ _ (by omega)).trans (hb _ (by omega))) (ex_0 ?_))))))
        refine ex_ic1 (fun hc30 => ?_) (fun hc30 => by exact absurd hc30 (hz32 (by omega)))
        obtain ⟨n_, o_, r_, I1, e1, g14, g15, g16, g17, gf⟩ := l_next4 (d := d) hS hB (s := sk b n p) (by omega) ((hv1 _ _ (by omega)).trans hn) (fun k hk => (hv1 _ _ (by omega)).trans (hb k hk)) hv0
        exact ⟨n_, o_, r_, I1, e1, g14, g15, g16, g17, fun q k h => (gf q k h).trans (hv1 q k (by omega))⟩
  obtain ⟨o, e, I1, rfl, h⟩ := am_doQ (as := [(.inr (.inr (some 208)))]) (Nat.le_of_ble_eq_true rfl) rfl w
  exact ⟨I1, e, h⟩
theorem MK_fr {I J : Nat → Nat → Int} {b : Nat → Int} {n s : Nat} (h : MK I b n s) (hf : ∀ q k, ((q = 208 ∧ 13 ≤ k ∧ k ≤ 17) ∨ q = 217) → J q k = I q k) : MK J b n s := ⟨(hf _ _ (by decide)).trans h.1, (hf _ _ (by decide)).trans h.2.1, (hf _ _ (by decide)).trans h.2.2.1, (hf _ _ (by decide)).trans h.2.2.2.1, (hf _ _ (by decide)).trans h.2.2.2.2.1, fun k hk => (hf _ _ (Or.inr rfl)).trans (h.2.2.2.2.2 k hk)⟩
theorem c_next {d : Nat} {G : am_G} {I : Nat → Nat → Int} {P : Nat → Nat → Option Nat} (hS : ST G P) {b : Nat → Int} {n s : Nat} (hB : TB b n) (hM : MK I b n s) (hs : s ≤ n) : ∃ I1, am_call am_B am_M (d + 2) 200 [.inr (.inr (some 208))] (G, I, P) = some (none, (G, I1, P)) ∧ MK I1 b n (nx b n s) ∧ MKF I I1 := by
  obtain ⟨I1, e, h14, h15, h16, h17, hf⟩ := c_nextP (d := d) hS hB hM.1 hM.2.2.1 (en_b hs).2.1 hM.2.2.2.2.2
  exact ⟨I1, e, ⟨(hf _ _ (by decide)).trans hM.1, h14, h15, h16, h17, fun k hk => (hf _ _ (by omega)).trans (hM.2.2.2.2.2 k hk)⟩, hf⟩
