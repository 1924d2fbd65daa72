/-! ===== the reference: which word, which sign, which number ===== -/
def hsh (kw : List Int) : Int := kw.foldl (fun w c => w * 32 + c - 96) 0
theorem hsh_snoc {kw : List Int} {c : Int} : hsh (kw ++ [c]) = hsh kw * 32 + c - 96 := by unfold hsh; rw [List.foldl_append]; rfl
theorem tk_len {b : Nat → Int} {n s : Nat} : (tk b n s).length = en b n s - s := by unfold tk; rw [List.length_map, List.length_range]
def tkk (b : Nat → Int) (s k : Nat) : List Int := (List.range k).map (fun i => b (s + i))
theorem tkk_succ {b : Nat → Int} {s k : Nat} : tkk b s (k + 1) = tkk b s k ++ [b (s + k)] := by unfold tkk; rw [List.range_succ, List.map_append]; rfl
theorem wwd_hsh {b : Nat → Int} {s : Nat} : ∀ k, k ≤ 10 → wwd b s k = hsh (tkk b s k)
  | 0, _ => rfl
  | k + 1, h => by
    rw [wwd_succ, tkk_succ, hsh_snoc, wwd_hsh k (by omega)]
    unfold ww1
    rw [if_pos (by omega)]
def lets (kw : List Int) : Prop := ∀ c, c ∈ kw → 97 ≤ c ∧ c ≤ 122
theorem hsh_pos : ∀ (l : List Int), lets l.reverse → 0 ≤ hsh l.reverse ∧ (¬ l = [] → 0 < hsh l.reverse)
  | [], _ => ⟨Int.le_refl _, fun h => absurd rfl h⟩
  | c :: l, h => by
    rw [List.reverse_cons] at h ⊢
    have ih := hsh_pos l (fun x hx => h x (List.mem_append_left _ hx))
    have hc := h c (List.mem_append_right _ (List.mem_singleton.mpr rfl))
    rw [hsh_snoc]
    refine ⟨by omega, fun _ => by omega⟩
theorem hsh_inj : ∀ (l m : List Int), lets l.reverse → lets m.reverse → hsh l.reverse = hsh m.reverse → l = m
  | [], [], _, _, _ => rfl
  | [], c :: m, _, h2, e => by
    have := (hsh_pos (c :: m) h2).2 (by simp)
    rw [← e] at this
    exact absurd this (by decide)
  | c :: l, [], h1, _, e => by
    have := (hsh_pos (c :: l) h1).2 (by simp)
    rw [e] at this
    exact absurd this (by decide)
  | c :: l, x :: m, h1, h2, e => by
    rw [List.reverse_cons] at h1 h2 e
    rw [List.reverse_cons] at e
    have hc := h1 c (List.mem_append_right _ (List.mem_singleton.mpr rfl))
    have hx := h2 x (List.mem_append_right _ (List.mem_singleton.mpr rfl))
    rw [hsh_snoc, hsh_snoc] at e
    have e1 : c = x := by omega
    have e2 : hsh l.reverse = hsh m.reverse := by omega
    rw [e1, hsh_inj l m (fun y hy => h1 y (List.mem_append_left _ hy)) (fun y hy => h2 y (List.mem_append_left _ hy)) e2]
theorem word_iff {b : Nat → Int} {n s : Nat} (hs : s ≤ n) {kw : List Int} (hl : lets kw) (hp : 0 < kw.length) (hp2 : kw.length ≤ 10) : (ms b n s = 1 ∧ wo b n s = hsh kw) ↔ tk b n s = kw := by
  have he := en_b (b := b) hs
  constructor
  · rintro ⟨h1, h2⟩
    have hlt : s < n := by
      unfold ms at h1
      split at h1
      · assumption
      · omega
    have hs1 : srt (b s) = 1 := by
      unfold ms at h1
      rw [if_pos hlt] at h1
      split at h1
      · assumption
      · split at h1 <;> omega
    unfold wo at h2
    rw [if_pos hlt, if_pos hs1] at h2
    have hlet : ∀ i, i < en b n s - s → 97 ≤ b (s + i) ∧ b (s + i) ≤ 122 := fun i hi => srt1 ((en_in hlt (by omega) (by omega)).trans hs1)
    have hpo := (hsh_pos kw.reverse (by rw [List.reverse_reverse]; exact hl)).1
    rw [List.reverse_reverse] at hpo
    have h10 : en b n s - s ≤ 10 := by
      apply Classical.byContradiction
      intro z
      have := (wwd_b _ hlet).2 (by omega)
      omega
    rw [wwd_hsh _ h10] at h2
    have htl : lets (tk b n s) := by
      intro c hc
      unfold tk at hc
      obtain ⟨i, hi, rfl⟩ := List.mem_map.mp hc
      exact hlet i (List.mem_range.mp hi)
    have := hsh_inj (tk b n s).reverse kw.reverse (by rw [List.reverse_reverse]; exact htl) (by rw [List.reverse_reverse]; exact hl) (by rw [List.reverse_reverse, List.reverse_reverse]; exact h2)
    exact List.reverse_inj.mp this
  · intro h
    have hlen : en b n s - s = kw.length := by rw [← tk_len, h]
    have hlt : s < n := by omega
    have h0 : b s ∈ kw := by
      rw [← h]
      unfold tk
      exact List.mem_map.mpr ⟨0, List.mem_range.mpr (by omega), rfl⟩
    have hb := hl _ h0
    have hs1 : srt (b s) = 1 := by unfold srt; rw [if_pos hb]
    have hlet : ∀ i, i < en b n s - s → 97 ≤ b (s + i) ∧ b (s + i) ≤ 122 := fun i hi => srt1 ((en_in hlt (by omega) (by omega)).trans hs1)
    refine ⟨by unfold ms; rw [if_pos hlt, if_pos hs1], ?_⟩
    unfold wo
    rw [if_pos hlt, if_pos hs1]
    rw [wwd_hsh _ (by omega)]
    exact congrArg hsh h
theorem sign_iff {b : Nat → Int} {n s : Nat} (hs : s ≤ n) {c : Int} (hc : srt c = 0) : (ms b n s = 3 ∧ wo b n s = c) ↔ tk b n s = [c] := by
  have he := en_b (b := b) hs
  have h2 := srt_2 (b s)
  constructor
  · rintro ⟨h1, h3⟩
    have hlt : s < n := by
      unfold ms at h1
      split at h1
      · assumption
      · omega
    have h0 : srt (b s) = 0 := by
      unfold ms at h1
      rw [if_pos hlt] at h1
      split at h1
      · omega
      · split at h1 <;> omega
    unfold wo at h3
    rw [if_pos hlt, if_neg (by omega), if_neg (by omega)] at h3
    refine tk_eq.mpr ⟨by rw [en_0 hlt h0, List.length_singleton]; omega, fun i hi => ?_⟩
    have hi : i = 0 := by rw [List.length_singleton] at hi; omega
    subst hi
    exact h3
  · intro h
    obtain ⟨e1, e2⟩ := tk_eq.mp h
    rw [List.length_singleton] at e1
    have e3 : b s = c := e2 0 (show 0 < 1 by decide)
    have hlt : s < n := by omega
    subst e3
    exact ⟨by unfold ms; rw [if_pos hlt, if_neg (by omega), if_neg (by omega)], by unfold wo; rw [if_pos hlt, if_neg (by omega), if_neg (by omega)]⟩
/-- the same number on both sides -/
theorem num_wo {b : Nat → Int} {n s : Nat} (hs : s ≤ n) : (ms b n s = 2 ↔ ¬ num b n s = -1) ∧ (ms b n s = 2 → 0 ≤ num b n s ∧ 0 ≤ wo b n s ∧ wo b n s ≤ 10000009 ∧ ((num b n s = wo b n s ∧ wo b n s ≤ 1000) ∨ (num b n s = 1001 ∧ 1000 < wo b n s))) := by
  have he := en_b (b := b) hs
  by_cases hlt : s < n
  · by_cases h2 : srt (b s) = 2
    · have hm : ms b n s = 2 := by unfold ms; rw [if_pos hlt, if_neg (by omega), if_pos h2]
      have hn : num b n s = am_it (fun i v => nu1 b i v) (en b n s - s) s 0 := by unfold num so; rw [if_pos hlt, if_pos h2]
      have hw : wo b n s = wdg b s (en b n s - s) := by unfold wo; rw [if_pos hlt, if_neg (by omega), if_pos h2]
      have hd : ∀ i, s ≤ i → i < en b n s → 48 ≤ b i ∧ b i ≤ 57 := fun i h1 h3 => srt2 ((en_in hlt h1 h3).trans h2)
      have hr := am_it_rel (f := fun i v => nu1 b i v) (g := fun i w => wd1 b i w) (R := fun i v w => s ≤ i ∧ 0 ≤ v ∧ ((v = w ∧ w ≤ 1000) ∨ (v = 1001 ∧ 1000 < w))) (N := en b n s) (fun i v w hi h => by
        have := hd i h.1 hi
        refine ⟨by omega, ?_⟩
        show 0 ≤ nu1 b i v ∧ ((nu1 b i v = wd1 b i w ∧ wd1 b i w ≤ 1000) ∨ (nu1 b i v = 1001 ∧ 1000 < wd1 b i w))
        unfold nu1 wd1
        split <;> split <;> omega) (en b n s - s) s 0 0 (by omega) ⟨Nat.le_refl _, by decide, Or.inl ⟨rfl, by decide⟩⟩
      have hwb := wdg_b (b := b) (s := s) (en b n s - s) (fun i hi => hd _ (by omega) (by omega))
      have hr2 : 0 ≤ num b n s ∧ ((num b n s = wo b n s ∧ wo b n s ≤ 1000) ∨ (num b n s = 1001 ∧ 1000 < wo b n s)) := by rw [hn, hw]; exact hr.2
      rw [hm]
      refine ⟨⟨fun _ => by omega, fun _ => rfl⟩, fun _ => ⟨hr2.1, by omega, by omega, hr2.2⟩⟩
    · have hm : ¬ ms b n s = 2 := by
        unfold ms
        rw [if_pos hlt, if_neg h2]
        split <;> decide
      have hn : num b n s = -1 := by unfold num so; rw [if_pos hlt, if_neg h2]
      exact ⟨⟨fun z => absurd z hm, fun z => absurd hn z⟩, fun z => absurd z hm⟩
  · have hm : ¬ ms b n s = 2 := by unfold ms; rw [if_neg hlt]; decide
    have hn : num b n s = -1 := by unfold num so; rw [if_neg hlt, if_neg (by decide)]
    exact ⟨⟨fun z => absurd z hm, fun z => absurd hn z⟩, fun z => absurd z hm⟩
theorem end_iff {b : Nat → Int} {n s : Nat} (hs : s ≤ n) : ms b n s = 0 ↔ s = n := by
  unfold ms
  split
  · have := srt_2 (b s)
    constructor
    · intro h; (repeat' split at h) <;> omega
    · intro h; omega
  · omega
theorem c_isWord_t {d : Nat} {G : am_G} {I : Nat → Nat → Int} {P : Nat → Nat → Option Nat} (hS : ST G P) {b : Nat → Int} {n : Nat} (hB : TB b n) {s : Nat} (hM : MK I b n s) (hs : s ≤ n) {v : Int} (h : ms b n s = 1 ∧ wo b n s = v) : am_call am_B am_M (d + 1) 201 [(.inr (.inr (some 208))), (.inr (.inl v))] (G, I, P) = some (some (.inl 1), (G, I, P)) := by
  refine am_doL (L := [some (.inr (.inr (some 208))), some (.inr (.inl v)), none]) (Nat.le_of_ble_eq_true rfl) rfl ?_
  refine (ex_6_0 (ix_41i (v := (ms b n s)) (sh_208 hS) hM.2.2.2.1 (ex_0 ?_)))
  refine ex_ic1 (fun hc5 => by exfalso; omega) (fun hc5 => ?_)
  refine (ex_6_0 (ix_41l (v := (wo b n s)) (sh_208 hS) hM.2.2.2.2.1 (ex_5_1 ?_)))
  refine ex_lc1 (fun hc14 => by exfalso; omega) (fun hc14 => ?_)
  refine (ex_0 (ex_28 ?_))
  exact ex_57 (by decide) rfl
theorem c_isWord_f {d : Nat} {G : am_G} {I : Nat → Nat → Int} {P : Nat → Nat → Option Nat} (hS : ST G P) {b : Nat → Int} {n : Nat} (hB : TB b n) {s : Nat} (hM : MK I b n s) (hs : s ≤ n) {v : Int} (h : ¬ (ms b n s = 1 ∧ wo b n s = v)) : am_call am_B am_M (d + 1) 201 [(.inr (.inr (some 208))), (.inr (.inl v))] (G, I, P) = some (some (.inl 0), (G, I, P)) := by
  refine am_doL (L := [some (.inr (.inr (some 208))), some (.inr (.inl v)), none]) (Nat.le_of_ble_eq_true rfl) rfl ?_
  refine (ex_6_0 (ix_41i (v := (ms b n s)) (sh_208 hS) hM.2.2.2.1 (ex_0 ?_)))
  refine ex_ic1 (fun hc5 => ?_) (fun hc5 => ?_)
  · refine (ex_0 (ex_58 ?_))
    exact ex_57 (by decide) rfl
  · refine (ex_6_0 (ix_41l (v := (wo b n s)) (sh_208 hS) hM.2.2.2.2.1 (ex_5_1 ?_)))
    refine ex_lc1 (fun hc14 => ?_) (fun hc14 => by exfalso; omega)
    refine (ex_0 (ex_58 ?_))
    exact ex_57 (by decide) rfl
theorem c_isSign_t {d : Nat} {G : am_G} {I : Nat → Nat → Int} {P : Nat → Nat → Option Nat} (hS : ST G P) {b : Nat → Int} {n : Nat} (hB : TB b n) {s : Nat} (hM : MK I b n s) (hs : s ≤ n) {v : Int} (h : ms b n s = 3 ∧ wo b n s = v) : am_call am_B am_M (d + 1) 202 [(.inr (.inr (some 208))), (.inl v)] (G, I, P) = some (some (.inl 1), (G, I, P)) := by
  refine am_doL (L := [some (.inr (.inr (some 208))), some (.inl v)]) (Nat.le_of_ble_eq_true rfl) rfl ?_
  refine (ex_6_0 (ix_41i (v := (ms b n s)) (sh_208 hS) hM.2.2.2.1 (ex_0 ?_)))
  refine ex_ic1 (fun hc5 => by exfalso; omega) (fun hc5 => ?_)
  refine (ex_6_0 (ix_41l (v := (wo b n s)) (sh_208 hS) hM.2.2.2.2.1 (ex_4_1 (ex_19 ?_))))
  refine ex_lc1 (fun hc15 => by exfalso; omega) (fun hc15 => ?_)
  refine (ex_0 (ex_28 ?_))
  exact ex_57 (by decide) rfl
theorem c_isSign_f {d : Nat} {G : am_G} {I : Nat → Nat → Int} {P : Nat → Nat → Option Nat} (hS : ST G P) {b : Nat → Int} {n : Nat} (hB : TB b n) {s : Nat} (hM : MK I b n s) (hs : s ≤ n) {v : Int} (h : ¬ (ms b n s = 3 ∧ wo b n s = v)) : am_call am_B am_M (d + 1) 202 [(.inr (.inr (some 208))), (.inl v)] (G, I, P) = some (some (.inl 0), (G, I, P)) := by
  refine am_doL (L := [some (.inr (.inr (some 208))), some (.inl v)]) (Nat.le_of_ble_eq_true rfl) rfl ?_
  refine (ex_6_0 (ix_41i (v := (ms b n s)) (sh_208 hS) hM.2.2.2.1 (ex_0 ?_)))
  refine ex_ic1 (fun hc5 => ?_) (fun hc5 => ?_)
  · refine (ex_0 (ex_58 ?_))
    exact ex_57 (by decide) rfl
  · refine (ex_6_0 (ix_41l (v := (wo b n s)) (sh_208 hS) hM.2.2.2.2.1 (ex_4_1 (ex_19 ?_))))
    refine ex_lc1 (fun hc15 => ?_) (fun hc15 => by exfalso; omega)
    refine (ex_0 (ex_58 ?_))
    exact ex_57 (by decide) rfl
theorem c_isW_t {d : Nat} {G : am_G} {I : Nat → Nat → Int} {P : Nat → Nat → Option Nat} (hS : ST G P) {b : Nat → Int} {n : Nat} (hB : TB b n) {s : Nat} (hM : MK I b n s) (hs : s ≤ n) {v : Int} (kw : List Int) (hl : lets kw) (hp : 0 < kw.length ∧ kw.length ≤ 10) (hv : hsh kw = v) (h : tk b n s = kw) : am_call am_B am_M (d + 1) 201 [.inr (.inr (some 208)), .inr (.inl v)] (G, I, P) = some (some (.inl 1), (G, I, P)) := c_isWord_t hS hB hM hs (hv ▸ (word_iff hs hl hp.1 hp.2).mpr h)
theorem c_isW_f {d : Nat} {G : am_G} {I : Nat → Nat → Int} {P : Nat → Nat → Option Nat} (hS : ST G P) {b : Nat → Int} {n : Nat} (hB : TB b n) {s : Nat} (hM : MK I b n s) (hs : s ≤ n) {v : Int} (kw : List Int) (hl : lets kw) (hp : 0 < kw.length ∧ kw.length ≤ 10) (hv : hsh kw = v) (h : ¬ tk b n s = kw) : am_call am_B am_M (d + 1) 201 [.inr (.inr (some 208)), .inr (.inl v)] (G, I, P) = some (some (.inl 0), (G, I, P)) := c_isWord_f hS hB hM hs (hv ▸ fun z => h ((word_iff hs hl hp.1 hp.2).mp z))
theorem c_isS_t {d : Nat} {G : am_G} {I : Nat → Nat → Int} {P : Nat → Nat → Option Nat} (hS : ST G P) {b : Nat → Int} {n : Nat} (hB : TB b n) {s : Nat} (hM : MK I b n s) (hs : s ≤ n) {v : Int} (hl : srt v = 0) (h : tk b n s = [v]) : am_call am_B am_M (d + 1) 202 [.inr (.inr (some 208)), .inl v] (G, I, P) = some (some (.inl 1), (G, I, P)) := c_isSign_t hS hB hM hs ((sign_iff hs hl).mpr h)
theorem c_isS_f {d : Nat} {G : am_G} {I : Nat → Nat → Int} {P : Nat → Nat → Option Nat} (hS : ST G P) {b : Nat → Int} {n : Nat} (hB : TB b n) {s : Nat} (hM : MK I b n s) (hs : s ≤ n) {v : Int} (hl : srt v = 0) (h : ¬ tk b n s = [v]) : am_call am_B am_M (d + 1) 202 [.inr (.inr (some 208)), .inl v] (G, I, P) = some (some (.inl 0), (G, I, P)) := c_isSign_f hS hB hM hs (fun z => h ((sign_iff hs hl).mp z))
theorem lets_of {kw : List Int} (h : (kw.all fun c => decide (97 ≤ c ∧ c ≤ 122)) = true) : lets kw := fun c hc => of_decide_eq_true (List.all_eq_true.mp h c hc)
theorem c_must_t {d : Nat} {G : am_G} {I : Nat → Nat → Int} {P : Nat → Nat → Option Nat} (hS : ST G P) {b : Nat → Int} {n : Nat} (hB : TB b n) {s : Nat} (hM : MK I b n s) (hs : s ≤ n) (hb0 : I 208 19 = 0) : ∃ I1, am_call am_B am_M (d + 3) 203 [(.inr (.inr (some 208))), (.inl 1)] (G, I, P) = some (none, (G, I1, P)) ∧ (MK I1 b n (nx b n s) ∧ MKF I I1) := by
  have w : am_ex (am_call am_B am_M (d + 2)) (am_B 203) (am_B 203 0) [some (.inr (.inr (some 208))), some (.inl 1)] [] (G, I, P) (fun o => ∃ I1, o = (none, (G, I1, P)) ∧ (MK I1 b n (nx b n s) ∧ MKF I I1)) := by
    refine (ex_6_0 (ix_41i (v := 0) (sh_208 hS) hb0 (ex_if1 (fun hc => by exfalso; revert hc; decide) (fun _ => ?_))))
    refine (ex_4_1 (ex_if1 (fun _ => ?_) (fun hc => by exfalso; revert hc; decide)))
    refine (ex_6_0 (ix_41i (v := 0) (sh_208 hS) hb0 (ex_if1 (fun hc => by exfalso; revert hc; decide) (fun _ => ?_))))
    refine (ex_6_0 ?_)
    obtain ⟨I1, e1, m1, f1⟩ := c_next (d := d) hS hB hM hs
    refine (ix_46 (S' := []) rfl (sh_208 hS) e1 rfl rfl (ex_58 ?_))
    exact ex_56 ⟨_, rfl, m1, f1⟩
  obtain ⟨o, e, I1, rfl, h⟩ := am_doQ (as := [(.inr (.inr (some 208))), (.inl 1)]) (Nat.le_of_ble_eq_true rfl) rfl w
  exact ⟨I1, e, h⟩
theorem c_must_f {d : Nat} {G : am_G} {I : Nat → Nat → Int} {P : Nat → Nat → Option Nat} (hS : ST G P) {s : Nat} (hs14 : I 208 14 = (s : Int)) (hb0 : I 208 19 = 0) : am_call am_B am_M (d + 3) 203 [(.inr (.inr (some 208))), (.inl 0)] (G, I, P) = some (none, (G, am_u2 (am_u2 I 208 19 1) 208 18 (s : Int), P)) := by
  refine am_doL (L := [some (.inr (.inr (some 208))), some (.inl 0)]) (Nat.le_of_ble_eq_true rfl) rfl ?_
  refine (ex_6_0 (ix_41i (v := 0) (sh_208 hS) hb0 (ex_if1 (fun hc => by exfalso; revert hc; decide) (fun _ => ?_))))
  refine (ex_4_1 (ex_if1 (fun hc => by exfalso; revert hc; decide) (fun _ => ?_)))
  refine (ex_6_0 (ex_0 (ix_42z (sh_208 hS) (by decide) (ex_6_0 (ex_6_0 (ix_41i (v := (s : Int)) (sh_208 hS) ((u2_k (by decide)).trans hs14) (ix_42i (sh_208 hS) (ex_58 (ex_6_0 (ix_41i (v := 1) (sh_208 hS) ((u2_k (by decide)).trans u2_e) (ex_if1 (fun _ => ?_) (fun hc => by exfalso; revert hc; decide))))))))))))
  exact ex_56 rfl
theorem c_must_b {d : Nat} {G : am_G} {I : Nat → Nat → Int} {P : Nat → Nat → Option Nat} (hS : ST G P) {v : Int} (hb0 : I 208 19 = 1) : am_call am_B am_M (d + 3) 203 [(.inr (.inr (some 208))), (.inl v)] (G, I, P) = some (none, (G, I, P)) := by
  refine am_doL (L := [some (.inr (.inr (some 208))), some (.inl v)]) (Nat.le_of_ble_eq_true rfl) rfl ?_
  refine (ex_6_0 (ix_41i (v := 1) (sh_208 hS) hb0 (ex_if1 (fun _ => ?_) (fun hc => by exfalso; revert hc; decide))))
  refine (ex_6_0 (ix_41i (v := 1) (sh_208 hS) hb0 (ex_if1 (fun _ => ?_) (fun hc => by exfalso; revert hc; decide))))
  exact ex_56 rfl
theorem c_number_t {d : Nat} {G : am_G} {I : Nat → Nat → Int} {P : Nat → Nat → Option Nat} (hS : ST G P) {b : Nat → Int} {n : Nat} (hB : TB b n) {s : Nat} (hM : MK I b n s) (hs : s ≤ n) (hb0 : I 208 19 = 0) {lo hi : Int} (h2 : ms b n s = 2) (hlo : lo ≤ wo b n s ∧ wo b n s ≤ hi) : ∃ I1, am_call am_B am_M (d + 4) 204 [(.inr (.inr (some 208))), (.inr (.inl lo)), (.inr (.inl hi))] (G, I, P) = some ((some (.inl (wo b n s))), (G, I1, P)) ∧ (MK I1 b n (nx b n s) ∧ MKF I I1) := by
  have hw := (num_wo hs).2 h2
  have w : am_ex (am_call am_B am_M (d + 3)) (am_B 204) (am_B 204 0) [some (.inr (.inr (some 208))), some (.inr (.inl lo)), none, some (.inr (.inl hi)), none, none] [] (G, I, P) (fun o => ∃ I1, o = ((some (.inl (wo b n s))), (G, I1, P)) ∧ (MK I1 b n (nx b n s) ∧ MKF I I1)) := by
    refine (ex_6_0 (ix_41l (v := (wo b n s)) (sh_208 hS) hM.2.2.2.2.1 (ex_20 ⟨by omega, by omega⟩ (ex_7_5 rfl (ex_6_0 (ex_6_0 (ix_41i (v := (ms b n s)) (sh_208 hS) hM.2.2.2.1 (ex_0 ?_))))))))
    refine ex_ic1 (fun hc13 => by exfalso; omega) (fun hc13 => ?_)
    refine (ex_6_0 (ix_41l (v := (wo b n s)) (sh_208 hS) hM.2.2.2.2.1 (ex_5_1 (ex_5_3 ?_))))
    have hb22 : ((lo : Int) ≤ (wo b n s) ∧ ((wo b n s) : Int) ≤ hi) := by omega
    refine (ix_45 (S' := [(.inl 1), (.inr (.inr (some 208)))]) rfl (c_in_t hb22) rfl rfl (ex_if0 (fun hc => by exfalso; revert hc; decide) (fun _ => ?_)))
    refine (ex_0 (ex_28 ?_))
    obtain ⟨I1, e1, m1, f1⟩ := c_must_t (d := d) hS hB hM hs hb0
    refine (ix_46 (S' := []) rfl (sh_208 hS) e1 rfl rfl (ex_4_5 ?_))
    exact ex_53 ⟨_, rfl, m1, f1⟩
  obtain ⟨o, e, I1, rfl, h⟩ := am_doQ (as := [(.inr (.inr (some 208))), (.inr (.inl lo)), (.inr (.inl hi))]) (Nat.le_of_ble_eq_true rfl) rfl w
  exact ⟨I1, e, h⟩
theorem ex_20w {K : Nat → List am_V → am_H → Option am_O} {B : Nat → List am_I} {is : List am_I} {L : am_L} {S : List am_V} {h : am_H} {Q : am_O → Prop} {pc : Nat} {c a : Int} {ns : List Nat} (hk : am_ex K B is L (.inl (Int32.ofInt a).toInt :: S) h Q) : am_ex K B ((20, pc, c, ns) :: is) L (.inr (.inl a) :: S) h Q := ex_nx rfl hk
theorem c_number_f {d : Nat} {G : am_G} {I : Nat → Nat → Int} {P : Nat → Nat → Option Nat} (hS : ST G P) {b : Nat → Int} {n : Nat} (hB : TB b n) {s : Nat} (hM : MK I b n s) (hs : s ≤ n) (hb0 : I 208 19 = 0) {lo hi : Int} (h : ¬ (ms b n s = 2 ∧ lo ≤ wo b n s ∧ wo b n s ≤ hi)) : am_call am_B am_M (d + 4) 204 [(.inr (.inr (some 208))), (.inr (.inl lo)), (.inr (.inl hi))] (G, I, P) = some (some (.inl ((Int32.ofInt (wo b n s)).toInt)), (G, am_u2 (am_u2 I 208 19 1) 208 18 (s : Int), P)) := by
  refine am_doL (L := [some (.inr (.inr (some 208))), some (.inr (.inl lo)), none, some (.inr (.inl hi)), none, none]) (Nat.le_of_ble_eq_true rfl) rfl ?_
  refine (ex_6_0 (ix_41l (v := (wo b n s)) (sh_208 hS) hM.2.2.2.2.1 (ex_20w (ex_7_5 rfl (ex_6_0 (ex_6_0 (ix_41i (v := (ms b n s)) (sh_208 hS) hM.2.2.2.1 (ex_0 ?_))))))))
  refine ex_ic1 (fun hc13 => ?_) (fun hc13 => ?_)
  · refine (ex_0 (ex_58 (ix_46 (S' := []) rfl (sh_208 hS) (c_must_f hS hM.2.1 hb0) rfl rfl (ex_4_5 ?_))))
    exact ex_53 rfl
  · refine (ex_6_0 (ix_41l (v := (wo b n s)) (sh_208 hS) hM.2.2.2.2.1 (ex_5_1 (ex_5_3 ?_))))
    have hb22 : ¬ (((lo : Int) ≤ (wo b n s) ∧ ((wo b n s) : Int) ≤ hi)) := by omega
    refine (ix_45 (S' := [(.inl 0), (.inr (.inr (some 208)))]) rfl (c_in_f hb22) rfl rfl (ex_if0 (fun _ => ?_) (fun hc => by exfalso; revert hc; decide)))
    refine (ex_0 (ex_58 (ix_46 (S' := []) rfl (sh_208 hS) (c_must_f hS hM.2.1 hb0) rfl rfl (ex_4_5 ?_))))
    exact ex_53 rfl
