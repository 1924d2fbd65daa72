/-! ===== the reference reads whole expressions as they are meant ===== -/
section
variable {d : Nat} {G : am_G} {P : Nat → Nat → Option Nat} {Q : am_O → Prop} {b : Nat → Int} {n : Nat} {od : Bool}
theorem zLP_zB {J : Nat → Nat → Int} {s l c p op m a D : Nat} {f : Fn} (hS : ST G P) (hB : TB b n) (hR : MR J b n od s l c (p + m) op) (hN : PN od J m p a c D f) (hlow : p = 0 ∨ bd (J 221 (p - 1)) < 2) (hE : ∀ j, p ≤ j → j < p + m → 20 ≤ J 221 j ∧ J 221 j ≤ 29) (htk : tk b n s = [97, 110, 100]) (hk : ∀ J1 c1, MR J1 b n od (nx b n s) l (c1 + 1) (p + 1) op → MS od (J1 219) (J1 220) a c1 D f → J1 221 p = 29 → J1 222 p = (c1 : Int) → J1 219 c1 = 29 → MFr a p J J1 → zLP d G P 1 Q 0 J1) : zLP d G P 1 Q 2 J := by
  obtain ⟨J1, e1, c1, h1, h2, h3, h4, h5, h6⟩ := c_bt_and (d := d + 2) hS hB hR hN htk hlow (fun j a1 a2 => by
    have g := hE j a1 a2
    have g2 := bd_t (o := J 221 j) (by omega)
    exact ⟨⟨g.1, by omega⟩, by first | exact g2.1 | exact g2.2.1 (by omega)⟩)
  exact zLP_2 hS (MR_b hR) e1 (hk J1 c1 h1 h2 h3 h4 h5 h6)
theorem zB_loop {it : Nat → Nat → Rs} {op D : Nat} (hS : ST G P) (hB : TB b n) (hP : zKQ (zLP d G P 1 Q) b n od op D it) (hG : IG n Vt it) {J0 : Nat → Nat → Int} {c p : Nat} (hlow : p = 0 ∨ bd (J0 221 (p - 1)) < 2) (hX : zX J0 p) : ∀ (k : Nat) (J : Nat → Nat → Int) (s l c' m : Nat) (f : Fn), MR J b n od s l c' (p + m) op → PN od J m p c c' D f → Vt f → (∀ j, p ≤ j → j < p + m → 20 ≤ J 221 j ∧ J 221 j ≤ 29) → MFr c p J0 J → 400 ≤ k + s → (∀ x, px_loop (opAnd b n) it (nx b n) k s l f = .inl x → zCB (zLP d G P 1 Q) x c p J0 → zLP d G P 1 Q 2 J) ∧ (∀ s' l' g, px_loop (opAnd b n) it (nx b n) k s l f = .inr (s', l', g) → (∀ J' m c', MR J' b n od s' l' c' (p + m) op → PN od J' m p c c' D g → (∀ j, p ≤ j → j < p + m → 20 ≤ J' 221 j ∧ J' 221 j ≤ 29) → opAnd b n s' = none → MFr c p J0 J' → zLP d G P 1 Q 2 J') → zLP d G P 1 Q 2 J)
  | 0, J, s, l, c', m, f, hR, hN, hV, hE, hF, hk => by
    have hs := MR_s hR
    have hn := hB.1
    simp only [px_loop]
    exact ⟨fun x e => (by cases e), fun s' l' g e hc => by cases e; exact hc J m c' hR hN hE (opAnd_end (by omega)) hF⟩
  | k + 1, J, s, l, c', m, f, hR, hN, hV, hE, hF, hk => by
    have hs := MR_s hR
    have hn := hB.1
    have hcc := PN_lt _ _ _ _ _ _ hN
    by_cases htk : tk b n s = [97, 110, 100]
    · have ht : opAnd b n s = some 29 := by unfold opAnd; rw [if_pos htk]
      have hlt := tk_lt hs htk
      have hnx := nx_2 (b := b) s hlt
      have hl2 := hlow_fr hlow hF
      have hgi := hG (nx b n s) l hnx.2 (MR_l hR)
      have hcond : ∀ {J1 : Nat → Nat → Int}, J1 221 p = 29 → MFr c p J J1 → (p + 1 = 0 ∨ bd (J1 221 (p + 1 - 1)) < 4) ∧ zX J1 (p + 1) := fun p1 f1 => ⟨Or.inr (by rw [show p + 1 - 1 = p by omega, p1]; decide), zX_ext (m := 1) (zX_fr hX (MFr_trans hF f1 (Nat.le_refl _) (Nat.le_refl _))) (fun j a1 a2 => by rw [show j = p by omega, p1]; decide)⟩
      cases hii : it (nx b n s) l with
      | inl x =>
        simp only [px_loop, ht, hii]
        refine ⟨fun y e hb => ?_, fun s' l' g e => (by cases e)⟩
        cases e
        refine zLP_zB hS hB hR hN hl2 hE htk (fun J1 c1 r1 m1 p1 q1 o1 f1 => ?_)
        have hcd := hcond p1 f1
        exact (hP J1 (nx b n s) l (c1 + 1) (p + 1) r1 hcd.1 hcd.2).1 x hii (zCB_fr hb (MFr_trans hF f1 (Nat.le_refl _) (Nat.le_refl _)) (by have := m1.1; omega) (by omega))
      | inr q =>
        obtain ⟨s3, l3, g⟩ := q
        rw [hii] at hgi
        have hVg : Vt g := hgi.2.2.2.2
        have hs3 := hgi.1
        have key : (∀ J3 m3 c3, MR J3 b n od s3 l3 c3 (p + (m3 + 1)) op → PN od J3 (m3 + 1) p c c3 D (cmb 29 f g) → (∀ j, p ≤ j → j < p + (m3 + 1) → 20 ≤ J3 221 j ∧ J3 221 j ≤ 29) → MFr c p J0 J3 → zLP d G P 1 Q 2 J3) → zLP d G P 1 Q 2 J := by
          intro hc
          refine zLP_zB hS hB hR hN hl2 hE htk (fun J1 c1 r1 m1 p1 q1 o1 f1 => ?_)
          have hcd := hcond p1 f1
          refine (hP J1 (nx b n s) l (c1 + 1) (p + 1) r1 hcd.1 hcd.2).2 s3 l3 g hii (fun J3 m3 c3 r3 n3 e3 f3 => ?_)
          have h221 : J3 221 p = 29 := (f3 221 p (by omega) (by omega) (by omega)).trans p1
          have h222 : J3 222 p = (c1 : Int) := (f3 222 p (by omega) (by omega) (by omega)).trans q1
          have h219 : J3 219 c1 = 29 := (f3 219 c1 (by omega) (by omega) (by omega)).trans o1
          have hm1 := m1.1
          exact hc J3 m3 c3 (by rw [show p + (m3 + 1) = p + 1 + m3 by omega]; exact r3) (Or.inr (Or.inr ⟨by rw [h221]; decide, c1, D, D, f, g, h222, h219.trans h221.symm, MS_congr m1 (fun k a1 a2 => ⟨f3 _ _ (by omega) (by omega) (by omega), f3 _ _ (by omega) (by omega) (by omega)⟩), hV, Nat.le_refl _, n3, Nat.le_refl _, by rw [h221]⟩)) (fun j a1 a2 => by
            by_cases e : j = p
            · rw [e, h221]; decide
            · have := e3 j (by omega) (by omega); omega) (MFr_trans hF (MFr_trans f1 f3 (by omega) (by omega)) (Nat.le_refl _) (Nat.le_refl _))
        have hVc : Vt (cmb 29 f g) := Vt_cmb _ _ _ (by decide) hV hVg
        simp only [px_loop, ht, hii]
        refine ⟨fun x e hb => key (fun J3 m3 c3 r3 n3 e3 f3 => ?_), fun s' l' g' e hcont => key (fun J3 m3 c3 r3 n3 e3 f3 => ?_)⟩
        · exact (zB_loop hS hB hP hG hlow hX k J3 s3 l3 c3 (m3 + 1) (cmb 29 f g) r3 n3 hVc e3 f3 (by omega)).1 x e hb
        · exact (zB_loop hS hB hP hG hlow hX k J3 s3 l3 c3 (m3 + 1) (cmb 29 f g) r3 n3 hVc e3 f3 (by omega)).2 s' l' g' e hcont
    · have ht : opAnd b n s = none := by unfold opAnd; rw [if_neg htk]
      simp only [px_loop, ht]
      exact ⟨fun x e => (by cases e), fun s' l' g e hc => by cases e; exact hc J m c' hR hN hE ht hF⟩
theorem zLP_zR {J : Nat → Nat → Int} {s l c p op m a D : Nat} {f : Fn} (hS : ST G P) (hB : TB b n) (hR : MR J b n od s l c (p + m) op) (hN : PN od J m p a c D f) (hlow : p = 0 ∨ bd (J 221 (p - 1)) < 1) (hE : ∀ j, p ≤ j → j < p + m → 20 ≤ J 221 j ∧ J 221 j ≤ 30) (htk : tk b n s = [111, 114]) (hk : ∀ J1 c1, MR J1 b n od (nx b n s) l (c1 + 1) (p + 1) op → MS od (J1 219) (J1 220) a c1 D f → J1 221 p = 30 → J1 222 p = (c1 : Int) → J1 219 c1 = 30 → MFr a p J J1 → zLP d G P 1 Q 0 J1) : zLP d G P 1 Q 2 J := by
  obtain ⟨J1, e1, c1, h1, h2, h3, h4, h5, h6⟩ := c_bt_or (d := d + 2) hS hB hR hN htk hlow (fun j a1 a2 => by
    have g := hE j a1 a2
    have g2 := bd_t (o := J 221 j) (by omega)
    exact ⟨⟨g.1, by omega⟩, by first | exact g2.1 | exact g2.2.1 (by omega)⟩)
  exact zLP_2 hS (MR_b hR) e1 (hk J1 c1 h1 h2 h3 h4 h5 h6)
theorem zR_loop {it : Nat → Nat → Rs} {op D : Nat} (hS : ST G P) (hB : TB b n) (hP : zKB (zLP d G P 1 Q) b n od op D it) (hG : IG n Vt it) {J0 : Nat → Nat → Int} {c p : Nat} (hlow : p = 0 ∨ bd (J0 221 (p - 1)) < 1) (hX : zX J0 p) : ∀ (k : Nat) (J : Nat → Nat → Int) (s l c' m : Nat) (f : Fn), MR J b n od s l c' (p + m) op → PN od J m p c c' D f → Vt f → (∀ j, p ≤ j → j < p + m → 20 ≤ J 221 j ∧ J 221 j ≤ 30) → opAnd b n s = none → MFr c p J0 J → 400 ≤ k + s → (∀ x, px_loop (opOr b n) it (nx b n) k s l f = .inl x → zCB (zLP d G P 1 Q) x c p J0 → zLP d G P 1 Q 2 J) ∧ (∀ s' l' g, px_loop (opOr b n) it (nx b n) k s l f = .inr (s', l', g) → (∀ J' m c', MR J' b n od s' l' c' (p + m) op → PN od J' m p c c' D g → (∀ j, p ≤ j → j < p + m → 20 ≤ J' 221 j ∧ J' 221 j ≤ 30) → opAnd b n s' = none → opOr b n s' = none → MFr c p J0 J' → zLP d G P 1 Q 2 J') → zLP d G P 1 Q 2 J)
  | 0, J, s, l, c', m, f, hR, hN, hV, hE, hA, hF, hk => by
    have hs := MR_s hR
    have hn := hB.1
    simp only [px_loop]
    exact ⟨fun x e => (by cases e), fun s' l' g e hc => by cases e; exact hc J m c' hR hN hE hA (opOr_end (by omega)) hF⟩
  | k + 1, J, s, l, c', m, f, hR, hN, hV, hE, hA, hF, hk => by
    have hs := MR_s hR
    have hn := hB.1
    have hcc := PN_lt _ _ _ _ _ _ hN
    by_cases htk : tk b n s = [111, 114]
    · have ht : opOr b n s = some 30 := by unfold opOr; rw [if_pos htk]
      have hlt := tk_lt hs htk
      have hnx := nx_2 (b := b) s hlt
      have hl2 := hlow_fr hlow hF
      have hgi := hG (nx b n s) l hnx.2 (MR_l hR)
      have hcond : ∀ {J1 : Nat → Nat → Int}, J1 221 p = 30 → MFr c p J J1 → (p + 1 = 0 ∨ bd (J1 221 (p + 1 - 1)) < 2) ∧ zX J1 (p + 1) := fun p1 f1 => ⟨Or.inr (by rw [show p + 1 - 1 = p by omega, p1]; decide), zX_ext (m := 1) (zX_fr hX (MFr_trans hF f1 (Nat.le_refl _) (Nat.le_refl _))) (fun j a1 a2 => by rw [show j = p by omega, p1]; decide)⟩
      cases hii : it (nx b n s) l with
      | inl x =>
        simp only [px_loop, ht, hii]
        refine ⟨fun y e hb => ?_, fun s' l' g e => (by cases e)⟩
        cases e
        refine zLP_zR hS hB hR hN hl2 hE htk (fun J1 c1 r1 m1 p1 q1 o1 f1 => ?_)
        have hcd := hcond p1 f1
        exact (hP J1 (nx b n s) l (c1 + 1) (p + 1) r1 hcd.1 hcd.2).1 x hii (zCB_fr hb (MFr_trans hF f1 (Nat.le_refl _) (Nat.le_refl _)) (by have := m1.1; omega) (by omega))
      | inr q =>
        obtain ⟨s3, l3, g⟩ := q
        rw [hii] at hgi
        have hVg : Vt g := hgi.2.2.2.2
        have hs3 := hgi.1
        have key : (∀ J3 m3 c3, MR J3 b n od s3 l3 c3 (p + (m3 + 1)) op → PN od J3 (m3 + 1) p c c3 D (cmb 30 f g) → (∀ j, p ≤ j → j < p + (m3 + 1) → 20 ≤ J3 221 j ∧ J3 221 j ≤ 30) → opAnd b n s3 = none → MFr c p J0 J3 → zLP d G P 1 Q 2 J3) → zLP d G P 1 Q 2 J := by
          intro hc
          refine zLP_zR hS hB hR hN hl2 hE htk (fun J1 c1 r1 m1 p1 q1 o1 f1 => ?_)
          have hcd := hcond p1 f1
          refine (hP J1 (nx b n s) l (c1 + 1) (p + 1) r1 hcd.1 hcd.2).2 s3 l3 g hii (fun J3 m3 c3 r3 n3 e3 a3 f3 => ?_)
          have h221 : J3 221 p = 30 := (f3 221 p (by omega) (by omega) (by omega)).trans p1
          have h222 : J3 222 p = (c1 : Int) := (f3 222 p (by omega) (by omega) (by omega)).trans q1
          have h219 : J3 219 c1 = 30 := (f3 219 c1 (by omega) (by omega) (by omega)).trans o1
          have hm1 := m1.1
          exact hc J3 m3 c3 (by rw [show p + (m3 + 1) = p + 1 + m3 by omega]; exact r3) (Or.inr (Or.inr ⟨by rw [h221]; decide, c1, D, D, f, g, h222, h219.trans h221.symm, MS_congr m1 (fun k a1 a2 => ⟨f3 _ _ (by omega) (by omega) (by omega), f3 _ _ (by omega) (by omega) (by omega)⟩), hV, Nat.le_refl _, n3, Nat.le_refl _, by rw [h221]⟩)) (fun j a1 a2 => by
            by_cases e : j = p
            · rw [e, h221]; decide
            · have := e3 j (by omega) (by omega); omega) a3 (MFr_trans hF (MFr_trans f1 f3 (by omega) (by omega)) (Nat.le_refl _) (Nat.le_refl _))
        have hVc : Vt (cmb 30 f g) := Vt_cmb _ _ _ (by decide) hV hVg
        simp only [px_loop, ht, hii]
        refine ⟨fun x e hb => key (fun J3 m3 c3 r3 n3 e3 a3 f3 => ?_), fun s' l' g' e hcont => key (fun J3 m3 c3 r3 n3 e3 a3 f3 => ?_)⟩
        · exact (zR_loop hS hB hP hG hlow hX k J3 s3 l3 c3 (m3 + 1) (cmb 30 f g) r3 n3 hVc e3 a3 f3 (by omega)).1 x e hb
        · exact (zR_loop hS hB hP hG hlow hX k J3 s3 l3 c3 (m3 + 1) (cmb 30 f g) r3 n3 hVc e3 a3 f3 (by omega)).2 s' l' g' e hcont
    · have ht : opOr b n s = none := by unfold opOr; rw [if_neg htk]
      simp only [px_loop, ht]
      exact ⟨fun x e => (by cases e), fun s' l' g e hc => by cases e; exact hc J m c' hR hN hE hA ht hF⟩
theorem z_both {T : Option (Nat → Nat → Rs)} {S : Nat → Nat → Rs} {op D : Nat} (hS : ST G P) (hB : TB b n) (hP : zKQ (zLP d G P 1 Q) b n od op D (px_plain b n T S)) (hG : IG n Vt (px_plain b n T S)) : zKB (zLP d G P 1 Q) b n od op D (px_both b n T S) := by
  intro J s l c p hR hlow hX
  have hn := hB.1
  have hgi := hG s l (MR_s hR) (MR_l hR)
  have hp := hP J s l c p hR (bd_4 hlow (by decide)) hX
  unfold px_both px_seq
  cases hi : px_plain b n T S s l with
  | inl x => exact ⟨fun y hy hb => by cases hy; exact hp.1 x hi hb, fun s' l' f hx => (by cases hx)⟩
  | inr q =>
    obtain ⟨s3, l3, g⟩ := q
    rw [hi] at hgi
    have hs3 := hgi.1
    have hVg : Vt g := hgi.2.2.2.2
    show (∀ x, px_loop (opAnd b n) (px_plain b n T S) (nx b n) 400 s3 l3 g = .inl x → _) ∧ (∀ s' l' f, px_loop (opAnd b n) (px_plain b n T S) (nx b n) 400 s3 l3 g = .inr (s', l', f) → _)
    refine ⟨fun x hx hb => hp.2 s3 l3 g hi (fun J3 m c3 r3 n3 e3 f3 => ?_), fun s' l' f hx hc => hp.2 s3 l3 g hi (fun J3 m c3 r3 n3 e3 f3 => ?_)⟩
    · exact (zB_loop hS hB hP hG hlow hX 400 J3 s3 l3 c3 m g r3 n3 hVg (fun j a1 a2 => by have := e3 j a1 a2; omega) f3 (by omega)).1 x hx hb
    · exact (zB_loop hS hB hP hG hlow hX 400 J3 s3 l3 c3 m g r3 n3 hVg (fun j a1 a2 => by have := e3 j a1 a2; omega) f3 (by omega)).2 s' l' f hx hc
theorem z_testT {T : Option (Nat → Nat → Rs)} {S : Nat → Nat → Rs} {op D : Nat} (hS : ST G P) (hB : TB b n) (hP : zKB (zLP d G P 1 Q) b n od op D (px_both b n T S)) (hG : IG n Vt (px_both b n T S)) : zKR (zLP d G P 1 Q) b n od op D (px_testT b n T S) := by
  intro J s l c p hR hlow hX
  have hn := hB.1
  have hgi := hG s l (MR_s hR) (MR_l hR)
  have hp := hP J s l c p hR (bd_4 hlow (by decide)) hX
  unfold px_testT px_seq
  cases hi : px_both b n T S s l with
  | inl x => exact ⟨fun y hy hb => by cases hy; exact hp.1 x hi hb, fun s' l' f hx => (by cases hx)⟩
  | inr q =>
    obtain ⟨s3, l3, g⟩ := q
    rw [hi] at hgi
    have hs3 := hgi.1
    have hVg : Vt g := hgi.2.2.2.2
    show (∀ x, px_loop (opOr b n) (px_both b n T S) (nx b n) 400 s3 l3 g = .inl x → _) ∧ (∀ s' l' f, px_loop (opOr b n) (px_both b n T S) (nx b n) 400 s3 l3 g = .inr (s', l', f) → _)
    refine ⟨fun x hx hb => hp.2 s3 l3 g hi (fun J3 m c3 r3 n3 e3 a3 f3 => ?_), fun s' l' f hx hc => hp.2 s3 l3 g hi (fun J3 m c3 r3 n3 e3 a3 f3 => ?_)⟩
    · exact (zR_loop hS hB hP hG hlow hX 400 J3 s3 l3 c3 m g r3 n3 hVg (fun j a1 a2 => by have := e3 j a1 a2; omega) a3 f3 (by omega)).1 x hx hb
    · exact (zR_loop hS hB hP hG hlow hX 400 J3 s3 l3 c3 m g r3 n3 hVg (fun j a1 a2 => by have := e3 j a1 a2; omega) a3 f3 (by omega)).2 s' l' f hx hc
theorem z_test (hS : ST G P) (hB : TB b n) : ∀ (r : Nat), r ≤ 8 → zKR (zLP d G P 1 Q) b n od (8 - r) (2 * r + 4) (px_test b n od r)
  | 0, _ => by
    have hg : ∀ g, (none : Option (Nat → Nat → Rs)) = some g → IG n Vt g := fun g e => by cases e
    have hu := z_sum (d := d) (te := 1) (Q := Q) (od := od) hS hB 0 (by omega)
    have hp := z_plain (T := none) (D := 4) hS hB (by omega) hu (fun _ => rfl) (fun g e => by cases e) (px_plain0_ok hg (px_sum_ok 0))
    exact z_testT hS hB (z_both hS hB hp (px_plain_ok hg (px_sum_ok 0))) (px_both_ok hg (px_sum_ok 0))
  | r + 1, h => by
    have ih := z_test hS hB r (by omega)
    have hg : ∀ g, some (px_test b n od r) = some g → IG n Vt g := fun g e => by cases e; exact px_test_ok r
    have hu := z_sum (d := d) (te := 1) (Q := Q) (od := od) hS hB (r + 1) h
    have hp := z_plain (T := some (px_test b n od r)) (D := 2 * (r + 1) + 4) hS hB (by omega) hu (fun e => by cases e) (fun g e => by
      cases e
      refine ⟨by omega, ?_⟩
      rw [show 8 - (r + 1) + 1 = 8 - r by omega]
      intro J s l c p h1 h2 h3
      have := ih J s l c p h1 h2 h3
      exact ⟨this.1, fun s' l' f hx hc => this.2 s' l' f hx (fun J' m c' g1 g2 g3 g4 g5 g6 => hc J' m c' g1 (PN_more _ _ _ _ _ _ _ g2 (by omega)) g3 g4 g5 g6)⟩) (px_plain0_ok hg (px_sum_ok (r + 1)))
    exact z_testT hS hB (z_both hS hB hp (px_plain_ok hg (px_sum_ok (r + 1)))) (px_both_ok hg (px_sum_ok (r + 1)))
end
/-- ahead of an expression -/
def MX (J : Nat → Nat → Int) (b : Nat → Int) (n : Nat) (od : Bool) (s l c : Nat) : Prop := MK J b n s ∧ s ≤ n ∧ l ≤ 50 ∧ (J 208 19 = 0 ∧ J 208 18 = -1) ∧ J 208 20 = (if od = true then 1 else 0) ∧ J 208 26 = (l : Int) ∧ J 208 23 = (c : Int) ∧ c ≤ s ∧ KM J
def MXF (c : Nat) (I J : Nat → Nat → Int) : Prop := MFr c 0 I J
def QX (G : am_G) (P : Nat → Nat → Option Nat) (b : Nat → Int) (n : Nat) (od : Bool) (I : Nat → Nat → Int) (c : Nat) (r : Rs) (o : am_O) : Prop := match r with
  | .inl x => ∃ I1, o = (none, (G, I1, P)) ∧ I1 208 19 = 1 ∧ I1 208 18 = (x : Int) ∧ MFr 0 0 I I1 ∧ (∃ c1 : Nat, I1 208 23 = (c1 : Int) ∧ c1 ≤ 400)
  | .inr (s', l', f) => ∃ I1 c1, o = (none, (G, I1, P)) ∧ MX I1 b n od s' l' c1 ∧ MS od (I1 219) (I1 220) c c1 20 f ∧ MFr c 0 I I1
theorem MX_of {J : Nat → Nat → Int} {b : Nat → Int} {n : Nat} {od : Bool} {s l c p op : Nat} (h : MR J b n od s l c p op) : MX J b n od s l c := ⟨h.1, h.2.1, h.2.2.1, h.2.2.2.1, h.2.2.2.2.1, h.2.2.2.2.2.1, (MR_P h).1, by have := MR_cp h; omega, MR_K h⟩
theorem MR_of {J : Nat → Nat → Int} {b : Nat → Int} {n : Nat} {od : Bool} {s l c : Nat} (hB : TB b n) (h : MX J b n od s l c) : MR (am_u2 (am_u2 J 208 29 0) 208 30 0) b n od s l c 0 0 := by
  obtain ⟨hM, hs, h50, h19, h20, h26, h23, hc, hK⟩ := h
  have hn := hB.1
  exact ⟨MK_fr hM (fun q k hq => (u2_o (by omega)).trans (u2_o (by omega))), hs, h50, ⟨(u2_k (by decide)).trans ((u2_k (by decide)).trans h19.1), (u2_k (by decide)).trans ((u2_k (by decide)).trans h19.2)⟩, (u2_k (by decide)).trans ((u2_k (by decide)).trans h20), (u2_k (by decide)).trans ((u2_k (by decide)).trans h26), u2_e, by decide, ⟨(u2_k (by decide)).trans ((u2_k (by decide)).trans h23), (u2_k (by decide)).trans u2_e, by omega, fun j hj => absurd hj (by omega)⟩, by omega, KM_fr hK (fun q k hq => (u2_q (by omega)).trans (u2_q (by omega)))⟩
theorem MFr_00 {c : Nat} {I J : Nat → Nat → Int} (h : MFr c 0 I J) : MFr 0 0 I J := fun q k x y z => h q k x (by omega) z
theorem MFr_SB {I J : Nat → Nat → Int} (h : SB I J) : MFr 0 0 I J := fun q k x y z => h q k (by omega) (by omega) (by omega)
/-- the end of an expression that can't be -/
theorem zX_bad {d : Nat} {G : am_G} {P : Nat → Nat → Option Nat} {te : Int} {I J : Nat → Nat → Int} {b : Nat → Int} {n : Nat} {od : Bool} {c x : Nat} {t : Int} {r : Rs} (hS : ST G P) (hb : BAD J x) (hF : MFr c 0 I J) (hr : r = .inl x) : zLP d G P te (QX G P b n od I c r) t J := by
  obtain ⟨h19, h18, c1, p1, hP⟩ := hb
  obtain ⟨K, c2, p2, e, hP2, f2⟩ := c_settleB (d := d + 4) (lst := 1) hS hP
  refine zLP_bad hS h19 ?_
  refine ex_6_0 (ex_0 (ix_46 (S' := []) rfl (sh_208 hS) e rfl rfl (ex_56 ?_)))
  subst hr
  exact ⟨K, rfl, (f2 _ _ (by decide) (by decide) (by decide)).trans h19, (f2 _ _ (by decide) (by decide) (by decide)).trans h18, MFr_trans (MFr_00 hF) (MFr_SB f2) (Nat.le_refl _) (Nat.le_refl _), c2, hP2.1, by have := hP2.2.2.1; omega⟩
/-- the end of one that can be -/
theorem zX_ok {d : Nat} {G : am_G} {P : Nat → Nat → Option Nat} {te : Int} {I J : Nat → Nat → Int} {b : Nat → Int} {n : Nat} {od : Bool} {s l c c1 m op D : Nat} {f : Fn} {r : Rs} (hS : ST G P) (hR : MR J b n od s l c1 (0 + m) op) (hN : PN od J m 0 c c1 D f) (hD : D ≤ 20) (hE : ∀ j, 0 ≤ j → j < 0 + m → 20 ≤ J 221 j ∧ J 221 j ≤ 30) (hF : MFr c 0 I J) (hr : r = .inr (s, l, f)) : zLP d G P te (QX G P b n od I c r) 4 J := by
  have hac := PN_lt _ _ _ _ _ _ hN
  obtain ⟨K, c2, e, hM, hc2, hcp, h29, h23, fs⟩ := c_settle (d := d + 4) (lst := 1) hS (Or.inl rfl) hN (fun j a1 a2 => ⟨hE j a1 a2, (bd_t (hE j a1 a2)).1⟩) (MR_P hR).2.1 (MR_P hR).1 (MR_P hR).2.2.1
  have rs := MR_set hR fs h29 h23 hcp
  refine zLP_4 hS (MR_b hR) ?_
  refine ex_6_0 (ex_0 (ix_46 (S' := []) rfl (sh_208 hS) e rfl rfl (ex_56 ?_)))
  subst hr
  exact ⟨K, c2, rfl, MX_of rs, MS_more hM hD, MFr_trans hF (MFr_SF fs (by omega)) (Nat.le_refl _) (Nat.le_refl _)⟩
theorem MFr_29 {c : Nat} {I : Nat → Nat → Int} : MFr c 0 I (am_u2 (am_u2 I 208 29 0) 208 30 0) := fun q k x y z => (u2_o (by omega)).trans (u2_o (by omega))
theorem c_exprS {d : Nat} {G : am_G} {I : Nat → Nat → Int} {P : Nat → Nat → Option Nat} (hS : ST G P) {b : Nat → Int} {n : Nat} (hB : TB b n) {od : Bool} {s l c : Nat} (hX : MX I b n od s l c) : ∃ o, am_call am_B am_M (d + 7) 220 [.inr (.inr (some 208)), .inl 0] (G, I, P) = some o ∧ QX G P b n od I c (px_sum b n od 8 s l) o := by
  refine am_doQ (L := [some (.inr (.inr (some 208))), some (.inl 0), none]) (Nat.le_of_ble_eq_true rfl) rfl ?_
  have hR := MR_of hB hX
  refine ex_6_0 (ex_0 (ix_42i (sh_208 hS) (ex_6_0 (ex_0 (ix_42i (sh_208 hS) (ex_4_1 (ex_if0 (fun _ => ?_) (fun h => absurd rfl h))))))))
  refine ex_0 (ex_58 (ex_7_2 rfl (ex_58 ?_)))
  show zLP d G P 0 (QX G P b n od I c (px_sum b n od 8 s l)) 1 _
  have hu := z_sum (d := d) (te := 0) (Q := QX G P b n od I c (px_sum b n od 8 s l)) (od := od) hS hB 8 (Nat.le_refl _) _ s l c 0 1 hR (Or.inl rfl) (Or.inl rfl)
  cases hv : px_sum b n od 8 s l with
  | inl x =>
    rw [hv] at hu
    exact hu.1 x rfl (fun J' t' hb hf => zX_bad hS hb (MFr_trans MFr_29 hf (Nat.le_refl _) (Nat.le_refl _)) rfl)
  | inr q =>
    obtain ⟨s', l', f⟩ := q
    rw [hv] at hu
    refine hu.2 s' l' f rfl (fun J' m c' r' n' e' a' o' f' => ?_)
    have hno := no_ops a' o'
    have hinn : inrF (J' 221) (0 + m) = -1 := by
      rw [inrF_ext m (fun j a1 a2 => by have := e' j a1 a2; omega)]
      rfl
    exact zLP_3 hS (MR_b r') (c_bs_over (d := d + 2) hS hB r' hno.1 hno.2.1 hno.2.2.1 hno.2.2.2.1 hno.2.2.2.2 hinn) (zX_ok hS r' n' (by decide) (fun j a1 a2 => by have := e' j a1 a2; omega) (MFr_trans MFr_29 f' (Nat.le_refl _) (Nat.le_refl _)) rfl)
theorem c_exprT {d : Nat} {G : am_G} {I : Nat → Nat → Int} {P : Nat → Nat → Option Nat} (hS : ST G P) {b : Nat → Int} {n : Nat} (hB : TB b n) {od : Bool} {s l c : Nat} (hX : MX I b n od s l c) : ∃ o, am_call am_B am_M (d + 7) 220 [.inr (.inr (some 208)), .inl 1] (G, I, P) = some o ∧ QX G P b n od I c (px_test b n od 8 s l) o := by
  refine am_doQ (L := [some (.inr (.inr (some 208))), some (.inl 1), none]) (Nat.le_of_ble_eq_true rfl) rfl ?_
  have hR := MR_of hB hX
  refine ex_6_0 (ex_0 (ix_42i (sh_208 hS) (ex_6_0 (ex_0 (ix_42i (sh_208 hS) (ex_4_1 (ex_if0 (fun h => by exfalso; revert h; decide) (fun _ => ?_))))))))
  refine ex_0 (ex_28 (ex_7_2 rfl (ex_58 ?_)))
  show zLP d G P 1 (QX G P b n od I c (px_test b n od 8 s l)) 0 _
  have hu := z_test (d := d) (Q := QX G P b n od I c (px_test b n od 8 s l)) (od := od) hS hB 8 (Nat.le_refl _) _ s l c 0 hR (Or.inl rfl) (Or.inl rfl)
  cases hv : px_test b n od 8 s l with
  | inl x =>
    rw [hv] at hu
    exact hu.1 x rfl (fun J' t' hb hf => zX_bad hS hb (MFr_trans MFr_29 hf (Nat.le_refl _) (Nat.le_refl _)) rfl)
  | inr q =>
    obtain ⟨s', l', f⟩ := q
    rw [hv] at hu
    refine hu.2 s' l' f rfl (fun J' m c' r' n' e' a' o' f' => ?_)
    have hinn : inrF (J' 221) (0 + m) = -1 := by
      rw [inrF_ext m (fun j a1 a2 => by have := e' j a1 a2; omega)]
      rfl
    exact zLP_2 hS (MR_b r') (c_bt_over (d := d + 2) hS hB r' (no_and a') (no_or o') hinn) (zX_ok hS r' n' (by decide) e' (MFr_trans MFr_29 f' (Nat.le_refl _) (Nat.le_refl _)) rfl)
