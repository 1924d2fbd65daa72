/-! ===== the reference reads sums and tests as they are meant ===== -/
def zLP (d : Nat) (G : am_G) (P : Nat → Nat → Option Nat) (te : Int) (Q : am_O → Prop) (t : Int) (J : Nat → Nat → Int) : Prop := am_ex (am_call am_B am_M (d + 6)) (am_B 220) (am_B 220 4) [some (.inr (.inr (some 208))), some (.inl te), some (.inl t)] [] (G, J, P) Q
theorem zLP_0 {d : Nat} {G : am_G} {P : Nat → Nat → Option Nat} {te : Int} {Q : am_O → Prop} {J J' : Nat → Nat → Int} (hS : ST G P) (hb : J 208 19 = 0) {t : Int} (e : am_call am_B am_M (d + 6) 217 [.inr (.inr (some 208))] (G, J, P) = some (some (.inl t), (G, J', P))) (h : zLP d G P te Q t J') : zLP d G P te Q 0 J := by
  unfold zLP at h ⊢
  refine (ex_6_0 (ix_41i (v := 0) (sh_208 hS) hb (ex_if1 (fun hc => by exfalso; revert hc; decide) (fun _ => ?_))))
  refine (ex_4_2 (ex_0 (ex_ic0 (fun hc => by exfalso; revert hc; decide) (fun _ => ?_))))
  refine (ex_4_2 (ex_if1 (fun hc => by exfalso; revert hc; decide) (fun _ => ?_)))
  refine (ex_6_0 (ix_46 (S' := [(.inl t)]) rfl (sh_208 hS) e rfl rfl (ex_28 (ex_7_2 rfl (ex_28 ?_)))))
  exact h
theorem zLP_1 {d : Nat} {G : am_G} {P : Nat → Nat → Option Nat} {te : Int} {Q : am_O → Prop} {J J' : Nat → Nat → Int} (hS : ST G P) (hb : J 208 19 = 0) {t : Int} (e : am_call am_B am_M (d + 6) 216 [.inr (.inr (some 208))] (G, J, P) = some (some (.inl t), (G, J', P))) (h : zLP d G P te Q t J') : zLP d G P te Q 1 J := by
  unfold zLP at h ⊢
  refine (ex_6_0 (ix_41i (v := 0) (sh_208 hS) hb (ex_if1 (fun hc => by exfalso; revert hc; decide) (fun _ => ?_))))
  refine (ex_4_2 (ex_0 (ex_ic0 (fun hc => by exfalso; revert hc; decide) (fun _ => ?_))))
  refine (ex_4_2 (ex_if1 (fun _ => ?_) (fun hc => by exfalso; revert hc; decide)))
  refine (ex_4_2 (ex_0 (ex_ic1 (fun hc => by exfalso; revert hc; decide) (fun _ => ?_))))
  refine (ex_6_0 (ix_46 (S' := [(.inl t)]) rfl (sh_208 hS) e rfl rfl (ex_28 (ex_7_2 rfl (ex_28 ?_)))))
  exact h
theorem zLP_3 {d : Nat} {G : am_G} {P : Nat → Nat → Option Nat} {te : Int} {Q : am_O → Prop} {J J' : Nat → Nat → Int} (hS : ST G P) (hb : J 208 19 = 0) {t : Int} (e : am_call am_B am_M (d + 6) 218 [.inr (.inr (some 208)), .inl te] (G, J, P) = some (some (.inl t), (G, J', P))) (h : zLP d G P te Q t J') : zLP d G P te Q 3 J := by
  unfold zLP at h ⊢
  refine (ex_6_0 (ix_41i (v := 0) (sh_208 hS) hb (ex_if1 (fun hc => by exfalso; revert hc; decide) (fun _ => ?_))))
  refine (ex_4_2 (ex_0 (ex_ic0 (fun hc => by exfalso; revert hc; decide) (fun _ => ?_))))
  refine (ex_4_2 (ex_if1 (fun _ => ?_) (fun hc => by exfalso; revert hc; decide)))
  refine (ex_4_2 (ex_0 (ex_ic1 (fun _ => ?_) (fun hc => by exfalso; revert hc; decide))))
  refine (ex_4_2 (ex_0 (ex_ic1 (fun hc => by exfalso; revert hc; decide) (fun _ => ?_))))
  refine (ex_6_0 (ex_4_1 (ix_46 (S' := [(.inl t)]) rfl (sh_208 hS) e rfl rfl (ex_28 (ex_7_2 rfl (ex_28 ?_))))))
  exact h
theorem zLP_2 {d : Nat} {G : am_G} {P : Nat → Nat → Option Nat} {te : Int} {Q : am_O → Prop} {J J' : Nat → Nat → Int} (hS : ST G P) (hb : J 208 19 = 0) {t : Int} (e : am_call am_B am_M (d + 6) 219 [.inr (.inr (some 208))] (G, J, P) = some (some (.inl t), (G, J', P))) (h : zLP d G P te Q t J') : zLP d G P te Q 2 J := by
  unfold zLP at h ⊢
  refine (ex_6_0 (ix_41i (v := 0) (sh_208 hS) hb (ex_if1 (fun hc => by exfalso; revert hc; decide) (fun _ => ?_))))
  refine (ex_4_2 (ex_0 (ex_ic0 (fun hc => by exfalso; revert hc; decide) (fun _ => ?_))))
  refine (ex_4_2 (ex_if1 (fun _ => ?_) (fun hc => by exfalso; revert hc; decide)))
  refine (ex_4_2 (ex_0 (ex_ic1 (fun _ => ?_) (fun hc => by exfalso; revert hc; decide))))
  refine (ex_4_2 (ex_0 (ex_ic1 (fun _ => ?_) (fun hc => by exfalso; revert hc; decide))))
  refine (ex_6_0 (ix_46 (S' := [(.inl t)]) rfl (sh_208 hS) e rfl rfl (ex_58 (ex_7_2 rfl (ex_28 ?_)))))
  exact h
theorem zLP_4 {d : Nat} {G : am_G} {P : Nat → Nat → Option Nat} {te : Int} {Q : am_O → Prop} {J : Nat → Nat → Int} (hS : ST G P) (hb : J 208 19 = 0) (h : am_ex (am_call am_B am_M (d + 6)) (am_B 220) (am_B 220 14) [some (.inr (.inr (some 208))), some (.inl te), some (.inl 4)] [] (G, J, P) Q) : zLP d G P te Q 4 J := by
  unfold zLP
  refine (ex_6_0 (ix_41i (v := 0) (sh_208 hS) hb (ex_if1 (fun hc => by exfalso; revert hc; decide) (fun _ => ?_))))
  refine (ex_4_2 (ex_0 (ex_ic0 (fun _ => ?_) (fun hc => by exfalso; revert hc; decide))))
  exact h
theorem zLP_bad {d : Nat} {G : am_G} {P : Nat → Nat → Option Nat} {te : Int} {Q : am_O → Prop} {J : Nat → Nat → Int} (hS : ST G P) {t : Int} (hb : J 208 19 = 1) (h : am_ex (am_call am_B am_M (d + 6)) (am_B 220) (am_B 220 14) [some (.inr (.inr (some 208))), some (.inl te), some (.inl t)] [] (G, J, P) Q) : zLP d G P te Q t J := by
  unfold zLP
  refine (ex_6_0 (ix_41i (v := 1) (sh_208 hS) hb (ex_if1 (fun _ => ?_) (fun hc => by exfalso; revert hc; decide))))
  exact h
section
variable {d : Nat} {G : am_G} {P : Nat → Nat → Option Nat} {te : Int} {Q : am_O → Prop} {b : Nat → Int} {n : Nat} {od : Bool}
def zCB (L : Int → (Nat → Nat → Int) → Prop) (x c p : Nat) (J : Nat → Nat → Int) : Prop := ∀ J' t', BAD J' x → MFr c p J J' → L t' J'
def zT0 (b : Nat → Int) (n : Nat) (t0 : Int) (s : Nat) : Prop := t0 = 1 ∨ (t0 = 0 ∧ ¬ tk b n s = [110, 111, 116] ∧ ¬ tk b n s = [40])
def zKP (L : Int → (Nat → Nat → Int) → Prop) (b : Nat → Int) (n : Nat) (od : Bool) (op D : Nat) (it : Nat → Nat → Rs) : Prop := ∀ (J : Nat → Nat → Int) (s l c p : Nat) (t0 : Int), MR J b n od s l c p op → zT0 b n t0 s → (∀ x, it s l = .inl x → zCB L x c p J → L t0 J) ∧ (∀ s' l' f, it s l = .inr (s', l', f) → (∀ J' c', MR J' b n od s' l' c' p op → MS od (J' 219) (J' 220) c c' D f → MFr c p J J' → L 3 J') → L t0 J)
def zKT (L : Int → (Nat → Nat → Int) → Prop) (b : Nat → Int) (n : Nat) (od : Bool) (op D : Nat) (it : Nat → Nat → Rs) : Prop := ∀ (J : Nat → Nat → Int) (s l c p : Nat) (t0 : Int), MR J b n od s l c p op → zT0 b n t0 s → (p = 0 ∨ bd (J 221 (p - 1)) < 6) → (∀ x, it s l = .inl x → zCB L x c p J → L t0 J) ∧ (∀ s' l' f, it s l = .inr (s', l', f) → (∀ J' m c', MR J' b n od s' l' c' (p + m) op → PN od J' m p c c' D f → (∀ j, p ≤ j → j < p + m → 22 ≤ J' 221 j ∧ J' 221 j ≤ 24) → opM b n s' = none → MFr c p J J' → L 3 J') → L t0 J)
def zKU (L : Int → (Nat → Nat → Int) → Prop) (b : Nat → Int) (n : Nat) (od : Bool) (op D : Nat) (it : Nat → Nat → Rs) : Prop := ∀ (J : Nat → Nat → Int) (s l c p : Nat) (t0 : Int), MR J b n od s l c p op → zT0 b n t0 s → (p = 0 ∨ bd (J 221 (p - 1)) < 5) → (∀ x, it s l = .inl x → zCB L x c p J → L t0 J) ∧ (∀ s' l' f, it s l = .inr (s', l', f) → (∀ J' m c', MR J' b n od s' l' c' (p + m) op → PN od J' m p c c' D f → (∀ j, p ≤ j → j < p + m → 20 ≤ J' 221 j ∧ J' 221 j ≤ 24) → opA b n s' = none → opM b n s' = none → MFr c p J J' → L 3 J') → L t0 J)
theorem zLP_mul {J : Nat → Nat → Int} {s l c p op m a D : Nat} {f : Fn} {o : Int} (hS : ST G P) (hB : TB b n) (hR : MR J b n od s l c (p + m) op) (hN : PN od J m p a c D f) (hlow : p = 0 ∨ bd (J 221 (p - 1)) < 6) (hE : ∀ j, p ≤ j → j < p + m → 22 ≤ J 221 j ∧ J 221 j ≤ 24) (ho : opM b n s = some o) (hk : ∀ J1 c1, MR J1 b n od (nx b n s) l c1 (p + 1) op → MS od (J1 219) (J1 220) a c1 D f → J1 221 p = o → MFr a p J J1 → zLP d G P te Q 1 J1) : zLP d G P te Q 3 J := by
  have hE' : ∀ j, p ≤ j → j < p + m → (20 ≤ J 221 j ∧ J 221 j ≤ 30) ∧ 6 ≤ bd (J 221 j) := fun j a1 a2 => by
    have h1 := hE j a1 a2
    have h2 := (bd_s (o := J 221 j) (by omega)).2.1 h1.1
    omega
  unfold opM at ho
  split at ho
  · rename_i e
    cases ho
    obtain ⟨J1, e1, c1, h1, h2, h3, h4⟩ := c_bs_22 (d := d + 2) (te := te) hS hB hR hN e hlow hE'
    exact zLP_3 hS (MR_b hR) e1 (hk J1 c1 h1 h2 h3 h4)
  · split at ho
    · rename_i e
      cases ho
      obtain ⟨J1, e1, c1, h1, h2, h3, h4⟩ := c_bs_23 (d := d + 2) (te := te) hS hB hR hN e hlow hE'
      exact zLP_3 hS (MR_b hR) e1 (hk J1 c1 h1 h2 h3 h4)
    · split at ho
      · rename_i e
        cases ho
        obtain ⟨J1, e1, c1, h1, h2, h3, h4⟩ := c_bs_24 (d := d + 2) (te := te) hS hB hR hN e hlow hE'
        exact zLP_3 hS (MR_b hR) e1 (hk J1 c1 h1 h2 h3 h4)
      · cases ho
theorem zLP_add {J : Nat → Nat → Int} {s l c p op m a D : Nat} {f : Fn} {o : Int} (hS : ST G P) (hB : TB b n) (hR : MR J b n od s l c (p + m) op) (hN : PN od J m p a c D f) (hlow : p = 0 ∨ bd (J 221 (p - 1)) < 5) (hE : ∀ j, p ≤ j → j < p + m → 20 ≤ J 221 j ∧ J 221 j ≤ 24) (ho : opA b n s = some o) (hk : ∀ J1 c1, MR J1 b n od (nx b n s) l c1 (p + 1) op → MS od (J1 219) (J1 220) a c1 D f → J1 221 p = o → MFr a p J J1 → zLP d G P te Q 1 J1) : zLP d G P te Q 3 J := by
  have hE' : ∀ j, p ≤ j → j < p + m → (20 ≤ J 221 j ∧ J 221 j ≤ 30) ∧ 5 ≤ bd (J 221 j) := fun j a1 a2 => by
    have h1 := hE j a1 a2
    have h2 := (bd_s (o := J 221 j) (by omega)).1
    omega
  unfold opA at ho
  split at ho
  · rename_i e
    cases ho
    obtain ⟨J1, e1, c1, h1, h2, h3, h4⟩ := c_bs_20 (d := d + 2) (te := te) hS hB hR hN e hlow hE'
    exact zLP_3 hS (MR_b hR) e1 (hk J1 c1 h1 h2 h3 h4)
  · split at ho
    · rename_i e
      cases ho
      obtain ⟨J1, e1, c1, h1, h2, h3, h4⟩ := c_bs_21 (d := d + 2) (te := te) hS hB hR hN e hlow hE'
      exact zLP_3 hS (MR_b hR) e1 (hk J1 c1 h1 h2 h3 h4)
    · cases ho
theorem tk_end {s : Nat} (h : n ≤ s) : tk b n s = [] := by
  unfold tk en
  rw [if_neg (by omega), show n - s = 0 by omega]
  rfl
theorem no_ops {s : Nat} (h1 : opA b n s = none) (h2 : opM b n s = none) : ¬ tk b n s = [43] ∧ ¬ tk b n s = [45] ∧ ¬ tk b n s = [42] ∧ ¬ tk b n s = [47] ∧ ¬ tk b n s = [37] := by
  unfold opA at h1
  unfold opM at h2
  refine ⟨fun z => ?_, fun z => ?_, fun z => ?_, fun z => ?_, fun z => ?_⟩
  · rw [if_pos z] at h1; cases h1
  · rw [if_neg (by rw [z]; decide), if_pos z] at h1; cases h1
  · rw [if_pos z] at h2; cases h2
  · rw [if_neg (by rw [z]; decide), if_pos z] at h2; cases h2
  · rw [if_neg (by rw [z]; decide), if_neg (by rw [z]; decide), if_pos z] at h2; cases h2
theorem opM_end {s : Nat} (h : n ≤ s) : opM b n s = none := by
  unfold opM
  rw [tk_end h, if_neg (by decide), if_neg (by decide), if_neg (by decide)]
theorem opA_end {s : Nat} (h : n ≤ s) : opA b n s = none := by
  unfold opA
  rw [tk_end h, if_neg (by decide), if_neg (by decide)]
theorem opAnd_end {s : Nat} (h : n ≤ s) : opAnd b n s = none := by
  unfold opAnd
  rw [tk_end h, if_neg (by decide)]
theorem opOr_end {s : Nat} (h : n ≤ s) : opOr b n s = none := by
  unfold opOr
  rw [tk_end h, if_neg (by decide)]
theorem hlow_fr {J J' : Nat → Nat → Int} {a p : Nat} {v : Int} (h : p = 0 ∨ bd (J 221 (p - 1)) < v) (f : MFr a p J J') : p = 0 ∨ bd (J' 221 (p - 1)) < v := by
  by_cases e : p = 0
  · exact Or.inl e
  · rw [f 221 (p - 1) (by omega) (by omega) (by omega)]; exact h
theorem zCB_fr {L : Int → (Nat → Nat → Int) → Prop} {x c p c1 p1 : Nat} {J J' : Nat → Nat → Int} (h : zCB L x c p J) (f : MFr c p J J') (hc : c ≤ c1) (hp : p ≤ p1) : zCB L x c1 p1 J' := fun K t hb hf => h K t hb (MFr_trans f hf hc hp)
/-- terms -/
theorem T_loop {it : Nat → Nat → Rs} {op Dp D : Nat} (hS : ST G P) (hB : TB b n) (hDp : Dp + 1 ≤ D) (hP : zKP (zLP d G P te Q) b n od op Dp it) (hG : IG n Vs it) {J0 : Nat → Nat → Int} {c p : Nat} (hlow : p = 0 ∨ bd (J0 221 (p - 1)) < 6) : ∀ (k : Nat) (J : Nat → Nat → Int) (s l c' m : Nat) (f : Fn), MR J b n od s l c' (p + m) op → PN od J m p c c' D f → (∀ j, p ≤ j → j < p + m → 22 ≤ J 221 j ∧ J 221 j ≤ 24) → MFr c p J0 J → 400 ≤ k + s → (∀ x, px_loop (opM b n) it (nx b n) k s l f = .inl x → zCB (zLP d G P te Q) x c p J0 → zLP d G P te Q 3 J) ∧ (∀ s' l' g, px_loop (opM b n) it (nx b n) k s l f = .inr (s', l', g) → (∀ J' m c', MR J' b n od s' l' c' (p + m) op → PN od J' m p c c' D g → (∀ j, p ≤ j → j < p + m → 22 ≤ J' 221 j ∧ J' 221 j ≤ 24) → opM b n s' = none → MFr c p J0 J' → zLP d G P te Q 3 J') → zLP d G P te Q 3 J)
  | 0, J, s, l, c', m, f, hR, hN, hE, hF, hk => by
    have hs := MR_s hR
    have hn := hB.1
    simp only [px_loop]
    exact ⟨fun x e => (by cases e), fun s' l' g e hc => by cases e; exact hc J m c' hR hN hE (opM_end (by omega)) hF⟩
  | k + 1, J, s, l, c', m, f, hR, hN, hE, hF, hk => by
    have hs := MR_s hR
    have hn := hB.1
    have hcc := PN_lt _ _ _ _ _ _ hN
    cases ht : opM b n s with
    | none =>
      simp only [px_loop, ht]
      exact ⟨fun x e => (by cases e), fun s' l' g e hc => by cases e; exact hc J m c' hR hN hE ht hF⟩
    | some o =>
      have ho := oo_M ht
      have hlt := (opM_ok s o hs ht).1
      have hnx := nx_2 (b := b) s hlt
      have hl2 := hlow_fr hlow hF
      cases hii : it (nx b n s) l with
      | inl x =>
        simp only [px_loop, ht, hii]
        refine ⟨fun y e hb => ?_, fun s' l' g e => (by cases e)⟩
        cases e
        refine zLP_mul hS hB hR hN hl2 hE ht (fun J1 c1 r1 m1 p1 f1 => ?_)
        exact (hP J1 (nx b n s) l c1 (p + 1) 1 r1 (Or.inl rfl)).1 x hii (zCB_fr hb (MFr_trans hF f1 (Nat.le_refl _) (Nat.le_refl _)) (by have := m1.1; omega) (by omega))
      | inr q =>
        obtain ⟨s3, l3, g⟩ := q
        have key : ∀ (C : (Nat → Nat → Int) → Prop), (∀ J3 c3, MR J3 b n od s3 l3 c3 (p + 1) op → PN od J3 1 p c c3 D (cmb o f g) → (∀ j, p ≤ j → j < p + 1 → 22 ≤ J3 221 j ∧ J3 221 j ≤ 24) → MFr c p J0 J3 → zLP d G P te Q 3 J3) → zLP d G P te Q 3 J := by
          intro _ hc
          refine zLP_mul hS hB hR hN hl2 hE ht (fun J1 c1 r1 m1 p1 f1 => ?_)
          refine (hP J1 (nx b n s) l c1 (p + 1) 1 r1 (Or.inl rfl)).2 s3 l3 g hii (fun J3 c3 r3 m3 f3 => ?_)
          have h221 : J3 221 p = o := (f3 221 p (by omega) (by omega) (by omega)).trans p1
          have hm1 := m1.1
          refine hc J3 c3 r3 (Or.inl ⟨c1, D, Dp, f, g, by rw [h221]; omega, MS_congr m1 (fun k a1 a2 => ⟨f3 _ _ (by omega) (by omega) (by omega), f3 _ _ (by omega) (by omega) (by omega)⟩), Nat.le_refl _, m3, hDp, by rw [h221]⟩) (fun j a1 a2 => by rw [show j = p by omega, h221]; omega) (MFr_trans hF (MFr_trans f1 f3 (by omega) (by omega)) (Nat.le_refl _) (Nat.le_refl _))
        simp only [px_loop, ht, hii]
        refine ⟨fun x e hb => key (fun _ => True) (fun J3 c3 r3 n3 e3 f3 => ?_), fun s' l' g' e hcont => key (fun _ => True) (fun J3 c3 r3 n3 e3 f3 => ?_)⟩
        · have hlen : 400 ≤ k + s3 := by
            have := hG (nx b n s) l hnx.2 (MR_l hR)
            rw [hii] at this
            have := this.1
            omega
          exact (T_loop hS hB hDp hP hG hlow k J3 s3 l3 c3 1 (cmb o f g) r3 n3 e3 f3 hlen).1 x e hb
        · have hlen : 400 ≤ k + s3 := by
            have := hG (nx b n s) l hnx.2 (MR_l hR)
            rw [hii] at this
            have := this.1
            omega
          exact (T_loop hS hB hDp hP hG hlow k J3 s3 l3 c3 1 (cmb o f g) r3 n3 e3 f3 hlen).2 s' l' g' e hcont
end
