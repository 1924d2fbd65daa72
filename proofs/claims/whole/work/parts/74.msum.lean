/-! ===== the reference reads sums as they are meant ===== -/
section
variable {d : Nat} {G : am_G} {P : Nat → Nat → Option Nat} {te : Int} {Q : am_O → Prop} {b : Nat → Int} {n : Nat} {od : Bool}
/-- sums -/
theorem U_loop {it : Nat → Nat → Rs} {op Dp D : Nat} (hS : ST G P) (hB : TB b n) (hDp : Dp + 1 ≤ D) (hP : zKT (zLP d G P te Q) b n od op Dp it) (hG : IG n Vs it) {J0 : Nat → Nat → Int} {c p : Nat} (hlow : p = 0 ∨ bd (J0 221 (p - 1)) < 5) : ∀ (k : Nat) (J : Nat → Nat → Int) (s l c' m : Nat) (f : Fn), MR J b n od s l c' (p + m) op → PN od J m p c c' D f → (∀ j, p ≤ j → j < p + m → 20 ≤ J 221 j ∧ J 221 j ≤ 24) → opM b n s = none → MFr c p J0 J → 400 ≤ k + s → (∀ x, px_loop (opA b n) it (nx b n) k s l f = .inl x → zCB (zLP d G P te Q) x c p J0 → zLP d G P te Q 3 J) ∧ (∀ s' l' g, px_loop (opA b n) it (nx b n) k s l f = .inr (s', l', g) → (∀ J' m c', MR J' b n od s' l' c' (p + m) op → PN od J' m p c c' D g → (∀ j, p ≤ j → j < p + m → 20 ≤ J' 221 j ∧ J' 221 j ≤ 24) → opA b n s' = none → opM b n s' = none → MFr c p J0 J' → zLP d G P te Q 3 J') → zLP d G P te Q 3 J)
  | 0, J, s, l, c', m, f, hR, hN, hE, hM, hF, hk => by
    have hs := MR_s hR
    have hn := hB.1
    simp only [px_loop]
    exact ⟨fun x e => (by cases e), fun s' l' g e hc => by cases e; exact hc J m c' hR hN hE (opA_end (by omega)) hM hF⟩
  | k + 1, J, s, l, c', m, f, hR, hN, hE, hM, hF, hk => by
    have hs := MR_s hR
    have hn := hB.1
    have hcc := PN_lt _ _ _ _ _ _ hN
    cases ht : opA b n s with
    | none =>
      simp only [px_loop, ht]
      exact ⟨fun x e => (by cases e), fun s' l' g e hc => by cases e; exact hc J m c' hR hN hE ht hM hF⟩
    | some o =>
      have ho := oo_A ht
      have hlt := (opA_ok s o hs ht).1
      have hnx := nx_2 (b := b) s hlt
      have hl2 := hlow_fr hlow hF
      cases hii : it (nx b n s) l with
      | inl x =>
        simp only [px_loop, ht, hii]
        refine ⟨fun y e hb => ?_, fun s' l' g e => (by cases e)⟩
        cases e
        refine zLP_add hS hB hR hN hl2 hE ht (fun J1 c1 r1 m1 p1 f1 => ?_)
        exact (hP J1 (nx b n s) l c1 (p + 1) 1 r1 (Or.inl rfl) (Or.inr (by rw [show p + 1 - 1 = p by omega, p1]; have := (bd_s (o := o) (by omega)).2.2 (by omega); omega))).1 x hii (zCB_fr hb (MFr_trans hF f1 (Nat.le_refl _) (Nat.le_refl _)) (by have := m1.1; omega) (by omega))
      | inr q =>
        obtain ⟨s3, l3, g⟩ := q
        have key : ∀ (C : (Nat → Nat → Int) → Prop), (∀ J3 m3 c3, MR J3 b n od s3 l3 c3 (p + (m3 + 1)) op → PN od J3 (m3 + 1) p c c3 D (cmb o f g) → (∀ j, p ≤ j → j < p + (m3 + 1) → 20 ≤ J3 221 j ∧ J3 221 j ≤ 24) → opM b n s3 = none → MFr c p J0 J3 → zLP d G P te Q 3 J3) → zLP d G P te Q 3 J := by
          intro _ hc
          refine zLP_add hS hB hR hN hl2 hE ht (fun J1 c1 r1 m1 p1 f1 => ?_)
          refine (hP J1 (nx b n s) l c1 (p + 1) 1 r1 (Or.inl rfl) (Or.inr (by rw [show p + 1 - 1 = p by omega, p1]; have := (bd_s (o := o) (by omega)).2.2 (by omega); omega))).2 s3 l3 g hii (fun J3 m3 c3 r3 n3 e3 o3 f3 => ?_)
          have h221 : J3 221 p = o := (f3 221 p (by omega) (by omega) (by omega)).trans p1
          have hm1 := m1.1
          refine hc J3 m3 c3 (by rw [show p + (m3 + 1) = p + 1 + m3 by omega]; exact r3) (Or.inl ⟨c1, D, Dp, f, g, by rw [h221]; omega, MS_congr m1 (fun k a1 a2 => ⟨f3 _ _ (by omega) (by omega) (by omega), f3 _ _ (by omega) (by omega) (by omega)⟩), Nat.le_refl _, n3, hDp, by rw [h221]⟩) (fun j a1 a2 => by
            by_cases e : j = p
            · rw [e, h221]; omega
            · have := e3 j (by omega) (by omega); omega) o3 (MFr_trans hF (MFr_trans f1 f3 (by omega) (by omega)) (Nat.le_refl _) (Nat.le_refl _))
        simp only [px_loop, ht, hii]
        refine ⟨fun x e hb => key (fun _ => True) (fun J3 m3 c3 r3 n3 e3 o3 f3 => ?_), fun s' l' g' e hcont => key (fun _ => True) (fun J3 m3 c3 r3 n3 e3 o3 f3 => ?_)⟩
        · have hlen : 400 ≤ k + s3 := by
            have := hG (nx b n s) l hnx.2 (MR_l hR)
            rw [hii] at this
            have := this.1
            omega
          exact (U_loop hS hB hDp hP hG hlow k J3 s3 l3 c3 (m3 + 1) (cmb o f g) r3 n3 e3 o3 f3 hlen).1 x e hb
        · have hlen : 400 ≤ k + s3 := by
            have := hG (nx b n s) l hnx.2 (MR_l hR)
            rw [hii] at this
            have := this.1
            omega
          exact (U_loop hS hB hDp hP hG hlow k J3 s3 l3 c3 (m3 + 1) (cmb o f g) r3 n3 e3 o3 f3 hlen).2 s' l' g' e hcont
/-- a leaf is read, from either turn -/
theorem z_leaf {J : Nat → Nat → Int} {s l c p op : Nat} {t0 : Int} (hS : ST G P) (hB : TB b n) (hR : MR J b n od s l c p op) (ht : zT0 b n t0 s) (h91 : ¬ tk b n s = [91]) : (∀ x, px_leaf b n od s l = .inl x → ∃ J', BAD J' x ∧ MFr c p J J' ∧ (zLP d G P te Q 3 J' → zLP d G P te Q t0 J)) ∧ (∀ s' l' f, px_leaf b n od s l = .inr (s', l', f) → ∃ J', MR J' b n od s' l' (c + 1) p op ∧ MS od (J' 219) (J' 220) c (c + 1) 1 f ∧ MFr c p J J' ∧ (zLP d G P te Q 3 J' → zLP d G P te Q t0 J)) := by
  rcases ht with rfl | ⟨rfl, hno, h40⟩
  · obtain ⟨o, eo, qo⟩ := c_leafQ (d := d + 1) hS hB hR h91
    refine ⟨fun x hx => ?_, fun s' l' f hx => ?_⟩
    · rw [hx] at qo
      obtain ⟨J', rfl, hb, hf⟩ := qo
      exact ⟨J', hb, hf, fun h => zLP_1 hS (MR_b hR) eo h⟩
    · rw [hx] at qo
      obtain ⟨J', rfl, r, m, hf⟩ := qo
      exact ⟨J', r, m, hf, fun h => zLP_1 hS (MR_b hR) eo h⟩
  · obtain ⟨o, eo, qo⟩ := c_leafQ (d := d) hS hB hR h91
    refine ⟨fun x hx => ?_, fun s' l' f hx => ?_⟩
    · rw [hx] at qo
      obtain ⟨J', rfl, hb, hf⟩ := qo
      exact ⟨J', hb, hf, fun h => zLP_0 hS (MR_b hR) (c_plain_p hS hB hR hno h40 eo) h⟩
    · rw [hx] at qo
      obtain ⟨J', rfl, r, m, hf⟩ := qo
      exact ⟨J', r, m, hf, fun h => zLP_0 hS (MR_b hR) (c_plain_p hS hB hR hno h40 eo) h⟩
theorem z_brt {J : Nat → Nat → Int} {s l c p op : Nat} {t0 : Int} (hS : ST G P) (hB : TB b n) (hR : MR J b n od s l c p op) (ht : zT0 b n t0 s) (h91 : tk b n s = [91]) (hop : op < 8) : ∃ J', MR J' b n od (nx b n s) l c (p + 1) (op + 1) ∧ J' 221 p = 32 ∧ MFr c p J J' ∧ (zLP d G P te Q 1 J' → zLP d G P te Q t0 J) := by
  rcases ht with rfl | ⟨rfl, hno, h40⟩
  · obtain ⟨J', e, r, h32, hf⟩ := c_part_bt (d := d + 1) hS hB hR h91 hop
    exact ⟨J', r, h32, hf, fun h => zLP_1 hS (MR_b hR) e h⟩
  · obtain ⟨J', e, r, h32, hf⟩ := c_part_bt (d := d) hS hB hR h91 hop
    exact ⟨J', r, h32, hf, fun h => zLP_0 hS (MR_b hR) (c_plain_p hS hB hR hno h40 e) h⟩
theorem z_brf {J : Nat → Nat → Int} {s l c p op : Nat} {t0 : Int} (hS : ST G P) (hB : TB b n) (hR : MR J b n od s l c p op) (ht : zT0 b n t0 s) (h91 : tk b n s = [91]) (hop : op = 8) : ∃ J', BAD J' s ∧ MFr c p J J' ∧ (zLP d G P te Q 1 J' → zLP d G P te Q t0 J) := by
  rcases ht with rfl | ⟨rfl, hno, h40⟩
  · exact ⟨_, MR_bad hR, MFr_bad, fun h => zLP_1 hS (MR_b hR) (c_part_bf (d := d + 1) hS hB hR h91 hop) h⟩
  · exact ⟨_, MR_bad hR, MFr_bad, fun h => zLP_0 hS (MR_b hR) (c_plain_p hS hB hR hno h40 (c_part_bf (d := d) hS hB hR h91 hop)) h⟩
theorem z_part {S : Option (Nat → Nat → Rs)} {op D : Nat} (hS : ST G P) (hB : TB b n) (hD : 1 ≤ D) (h0 : S = none → op = 8) (h1 : ∀ g, S = some g → op < 8 ∧ zKU (zLP d G P te Q) b n od (op + 1) D g) : zKP (zLP d G P te Q) b n od op D (px_part b n od S) := by
  intro J s l c p t0 hR ht
  by_cases h91 : tk b n s = [91]
  · cases hSe : S with
    | none =>
      have e : px_part b n od none s l = .inl s := by unfold px_part; rw [if_pos h91]
      rw [e]
      refine ⟨fun x hx hb => ?_, fun s' l' f hx => (by cases hx)⟩
      cases hx
      obtain ⟨J', b1, f1, k1⟩ := z_brf hS hB hR ht h91 (h0 hSe)
      exact k1 (hb J' 1 b1 f1)
    | some g =>
      obtain ⟨hop, hg⟩ := h1 g hSe
      obtain ⟨J1, r1, p1, f1, k1⟩ := z_brt (te := te) (Q := Q) (d := d) hS hB hR ht h91 hop
      have hu := hg J1 (nx b n s) l c (p + 1) 1 r1 (Or.inl rfl) (Or.inr (by rw [show p + 1 - 1 = p by omega, p1]; decide))
      cases hgv : g (nx b n s) l with
      | inl x =>
        have e : px_part b n od (some g) s l = .inl x := by unfold px_part; rw [if_pos h91]; simp only [hgv]
        rw [e]
        refine ⟨fun y hy hb => ?_, fun s' l' f hx => (by cases hx)⟩
        cases hy
        exact k1 (hu.1 x hgv (zCB_fr hb f1 (Nat.le_refl _) (by omega)))
      | inr q =>
        obtain ⟨s3, l3, f⟩ := q
        by_cases hcl : tk b n s3 = [93]
        · have e : px_part b n od (some g) s l = .inr (nx b n s3, l3, f) := by unfold px_part; rw [if_pos h91]; simp only [hgv, if_pos hcl]
          rw [e]
          refine ⟨fun y hy => (by cases hy), fun s' l' f' hx hc => ?_⟩
          cases hx
          refine k1 (hu.2 s3 l3 f hgv (fun J3 m c3 r3 n3 e3 a3 o3 f3 => ?_))
          have hno := no_ops a3 o3
          have hbr : J3 221 p = 32 := (f3 221 p (by omega) (by omega) (by omega)).trans p1
          obtain ⟨J4, e4, c4, r4, m4, hc4, f4⟩ := c_sq_t (d := d + 2) (te := te) hS hB r3 n3 hno.1 hno.2.1 hno.2.2.1 hno.2.2.2.1 hno.2.2.2.2 hbr e3 (by omega) hcl
          refine zLP_3 hS (MR_b r3) e4 (hc J4 c4 ?_ m4 (MFr_trans f1 (MFr_trans (MFr_trans (p := p) (a := c) MFr_refl f3 (Nat.le_refl _) (by omega)) f4 (Nat.le_refl _) (Nat.le_refl _)) (Nat.le_refl _) (Nat.le_refl _)))
          rw [show op + 1 - 1 = op by omega] at r4
          exact r4
        · have e : px_part b n od (some g) s l = .inl s3 := by unfold px_part; rw [if_pos h91]; simp only [hgv, if_neg hcl]
          rw [e]
          refine ⟨fun y hy hb => ?_, fun s' l' f' hx => (by cases hx)⟩
          cases hy
          refine k1 (hu.2 s3 l3 f hgv (fun J3 m c3 r3 n3 e3 a3 o3 f3 => ?_))
          have hno := no_ops a3 o3
          have hbr : J3 221 p = 32 := (f3 221 p (by omega) (by omega) (by omega)).trans p1
          refine zLP_3 hS (MR_b r3) (c_sq_f (d := d + 2) (te := te) hS hB r3 n3 hno.1 hno.2.1 hno.2.2.1 hno.2.2.2.1 hno.2.2.2.2 hbr e3 hcl) (hb _ _ (MR_bad r3) (MFr_trans f1 (MFr_trans (MFr_trans (p := p) (a := c) MFr_refl f3 (Nat.le_refl _) (by omega)) MFr_bad (Nat.le_refl _) (Nat.le_refl _)) (Nat.le_refl _) (Nat.le_refl _)))
  · have hl := z_leaf (d := d) (te := te) (Q := Q) hS hB hR ht h91
    rw [px_part_n h91]
    refine ⟨fun x hx hb => ?_, fun s' l' f hx hc => ?_⟩
    · obtain ⟨J', b1, f1, k1⟩ := hl.1 x hx
      exact k1 (hb J' 3 b1 f1)
    · obtain ⟨J', r1, m1, f1, k1⟩ := hl.2 s' l' f hx
      exact k1 (hc J' (c + 1) r1 (MS_more m1 hD) f1)
theorem z_term {S : Option (Nat → Nat → Rs)} {op Dp D : Nat} (hS : ST G P) (hB : TB b n) (hD : Dp + 1 ≤ D) (hP : zKP (zLP d G P te Q) b n od op Dp (px_part b n od S)) (hG : IG n Vs (px_part b n od S)) : zKT (zLP d G P te Q) b n od op D (px_term b n od S) := by
  intro J s l c p t0 hR ht hlow
  have hn := hB.1
  have hgi := hG s l (MR_s hR) (MR_l hR)
  have hp := hP J s l c p t0 hR ht
  unfold px_term px_seq
  cases hi : px_part b n od S s l with
  | inl x => exact ⟨fun y hy hb => by cases hy; exact hp.1 x hi hb, fun s' l' f hx => (by cases hx)⟩
  | inr q =>
    obtain ⟨s3, l3, g⟩ := q
    rw [hi] at hgi
    have hs3 := hgi.1
    show (∀ x, px_loop (opM b n) (px_part b n od S) (nx b n) 400 s3 l3 g = .inl x → _) ∧ (∀ s' l' f, px_loop (opM b n) (px_part b n od S) (nx b n) 400 s3 l3 g = .inr (s', l', f) → _)
    refine ⟨fun x hx hb => hp.2 s3 l3 g hi (fun J3 c3 r3 m3 f3 => ?_), fun s' l' f hx hc => hp.2 s3 l3 g hi (fun J3 c3 r3 m3 f3 => ?_)⟩
    · exact (T_loop hS hB hD hP hG hlow 400 J3 s3 l3 c3 0 g r3 (MS_more m3 (by omega)) (fun j a1 a2 => absurd a2 (by omega)) f3 (by omega)).1 x hx hb
    · exact (T_loop hS hB hD hP hG hlow 400 J3 s3 l3 c3 0 g r3 (MS_more m3 (by omega)) (fun j a1 a2 => absurd a2 (by omega)) f3 (by omega)).2 s' l' f hx hc
theorem z_sumS {S : Option (Nat → Nat → Rs)} {op Dp D : Nat} (hS : ST G P) (hB : TB b n) (hD : Dp + 1 ≤ D) (hP : zKT (zLP d G P te Q) b n od op Dp (px_term b n od S)) (hG : IG n Vs (px_term b n od S)) : zKU (zLP d G P te Q) b n od op D (px_sumS b n od S) := by
  intro J s l c p t0 hR ht hlow
  have hn := hB.1
  have hgi := hG s l (MR_s hR) (MR_l hR)
  have hp := hP J s l c p t0 hR ht (by rcases hlow with h | h; exact Or.inl h; exact Or.inr (by omega))
  unfold px_sumS px_seq
  cases hi : px_term b n od S s l with
  | inl x => exact ⟨fun y hy hb => by cases hy; exact hp.1 x hi hb, fun s' l' f hx => (by cases hx)⟩
  | inr q =>
    obtain ⟨s3, l3, g⟩ := q
    rw [hi] at hgi
    have hs3 := hgi.1
    show (∀ x, px_loop (opA b n) (px_term b n od S) (nx b n) 400 s3 l3 g = .inl x → _) ∧ (∀ s' l' f, px_loop (opA b n) (px_term b n od S) (nx b n) 400 s3 l3 g = .inr (s', l', f) → _)
    refine ⟨fun x hx hb => hp.2 s3 l3 g hi (fun J3 m c3 r3 n3 e3 o3 f3 => ?_), fun s' l' f hx hc => hp.2 s3 l3 g hi (fun J3 m c3 r3 n3 e3 o3 f3 => ?_)⟩
    · exact (U_loop hS hB hD hP hG hlow 400 J3 s3 l3 c3 m g r3 (PN_more _ _ _ _ _ _ _ n3 (by omega)) (fun j a1 a2 => by have := e3 j a1 a2; omega) o3 f3 (by omega)).1 x hx hb
    · exact (U_loop hS hB hD hP hG hlow 400 J3 s3 l3 c3 m g r3 (PN_more _ _ _ _ _ _ _ n3 (by omega)) (fun j a1 a2 => by have := e3 j a1 a2; omega) o3 f3 (by omega)).2 s' l' f hx hc
theorem z_sum (hS : ST G P) (hB : TB b n) : ∀ (r : Nat), r ≤ 8 → zKU (zLP d G P te Q) b n od (8 - r) (2 * r + 3) (px_sum b n od r)
  | 0, _ => by
    have hp := z_part (d := d) (te := te) (Q := Q) (od := od) (S := none) (op := 8) (D := 1) hS hB (Nat.le_refl _) (fun _ => rfl) (fun g e => by cases e)
    have hg : ∀ g, (none : Option (Nat → Nat → Rs)) = some g → IG n Vs g := fun g e => by cases e
    exact z_sumS hS hB (by omega) (z_term (D := 2) hS hB (by omega) hp (px_part_ok hg)) (px_term_ok hg)
  | r + 1, h => by
    have ih := z_sum hS hB r (by omega)
    have hg : ∀ g, some (px_sum b n od r) = some g → IG n Vs g := fun g e => by cases e; exact px_sum_ok r
    have hp := z_part (d := d) (te := te) (Q := Q) (od := od) (S := some (px_sum b n od r)) (op := 8 - (r + 1)) (D := 2 * r + 3) hS hB (by omega) (fun e => by cases e) (fun g e => by
      cases e
      refine ⟨by omega, ?_⟩
      rw [show 8 - (r + 1) + 1 = 8 - r by omega]
      exact ih)
    exact z_sumS hS hB (by omega) (z_term (D := 2 * r + 4) hS hB (by omega) hp (px_part_ok hg)) (px_term_ok hg)
end
