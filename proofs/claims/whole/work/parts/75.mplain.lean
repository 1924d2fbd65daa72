/-! ===== the reference reads tests as they are meant ===== -/
section
variable {d : Nat} {G : am_G} {P : Nat → Nat → Option Nat} {Q : am_O → Prop} {b : Nat → Int} {n : Nat} {od : Bool}
def zX (J : Nat → Nat → Int) (p : Nat) : Prop := inrF (J 221) p = -1 ∨ inrF (J 221) p = 31
theorem zX_fr {J J' : Nat → Nat → Int} {a p : Nat} (h : zX J p) (f : MFr a p J J') : zX J' p := by
  unfold zX
  rw [inrF_congr p (fun j hj => f 221 j (by omega) (by omega) (by omega))]
  exact h
theorem zX_ext {J : Nat → Nat → Int} {p m : Nat} (h : zX J p) (hE : ∀ j, p ≤ j → j < p + m → ¬ 31 ≤ J 221 j) : zX J (p + m) := by
  unfold zX
  rw [inrF_ext m hE]
  exact h
theorem isc_low {J : Nat → Nat → Int} {p : Nat} (hP : ∀ j, j < p → 20 ≤ J 221 j) (h : p = 0 ∨ bd (J 221 (p - 1)) < 4) : ¬ isc (J 221) p = true := by
  cases p with
  | zero => exact fun z => by cases z
  | succ p =>
    have h1 := h.resolve_left (by omega)
    rw [show p + 1 - 1 = p by omega] at h1
    have h2 := hP p (by omega)
    have h3 : 28 ≤ J 221 p := by
      apply Classical.byContradiction
      intro z
      revert h1
      unfold bd
      rw [if_neg (by omega), if_neg (by omega), if_neg (by omega), if_neg (by omega)]
      split
      · omega
      · split <;> omega
    show ¬ (if 20 ≤ J 221 p ∧ J 221 p ≤ 24 then isc (J 221) p else decide (25 ≤ J 221 p ∧ J 221 p ≤ 27)) = true
    rw [if_neg (by omega)]
    exact fun z => by have := of_decide_eq_true z; omega
def zKQ (L : Int → (Nat → Nat → Int) → Prop) (b : Nat → Int) (n : Nat) (od : Bool) (op D : Nat) (it : Nat → Nat → Rs) : Prop := ∀ (J : Nat → Nat → Int) (s l c p : Nat), MR J b n od s l c p op → (p = 0 ∨ bd (J 221 (p - 1)) < 4) → zX J p → (∀ x, it s l = .inl x → zCB L x c p J → L 0 J) ∧ (∀ s' l' f, it s l = .inr (s', l', f) → (∀ J' m c', MR J' b n od s' l' c' (p + m) op → PN od J' m p c c' D f → (∀ j, p ≤ j → j < p + m → 20 ≤ J' 221 j ∧ J' 221 j ≤ 28) → MFr c p J J' → L 2 J') → L 0 J)
def zKB (L : Int → (Nat → Nat → Int) → Prop) (b : Nat → Int) (n : Nat) (od : Bool) (op D : Nat) (it : Nat → Nat → Rs) : Prop := ∀ (J : Nat → Nat → Int) (s l c p : Nat), MR J b n od s l c p op → (p = 0 ∨ bd (J 221 (p - 1)) < 2) → zX J p → (∀ x, it s l = .inl x → zCB L x c p J → L 0 J) ∧ (∀ s' l' f, it s l = .inr (s', l', f) → (∀ J' m c', MR J' b n od s' l' c' (p + m) op → PN od J' m p c c' D f → (∀ j, p ≤ j → j < p + m → 20 ≤ J' 221 j ∧ J' 221 j ≤ 29) → opAnd b n s' = none → MFr c p J J' → L 2 J') → L 0 J)
def zKR (L : Int → (Nat → Nat → Int) → Prop) (b : Nat → Int) (n : Nat) (od : Bool) (op D : Nat) (it : Nat → Nat → Rs) : Prop := ∀ (J : Nat → Nat → Int) (s l c p : Nat), MR J b n od s l c p op → (p = 0 ∨ bd (J 221 (p - 1)) < 1) → zX J p → (∀ x, it s l = .inl x → zCB L x c p J → L 0 J) ∧ (∀ s' l' f, it s l = .inr (s', l', f) → (∀ J' m c', MR J' b n od s' l' c' (p + m) op → PN od J' m p c c' D f → (∀ j, p ≤ j → j < p + m → 20 ≤ J' 221 j ∧ J' 221 j ≤ 30) → opAnd b n s' = none → opOr b n s' = none → MFr c p J J' → L 2 J') → L 0 J)
theorem no_and {s : Nat} (h : opAnd b n s = none) : ¬ tk b n s = [97, 110, 100] := by
  intro z
  unfold opAnd at h
  rw [if_pos z] at h
  cases h
theorem no_or {s : Nat} (h : opOr b n s = none) : ¬ tk b n s = [111, 114] := by
  intro z
  unfold opOr at h
  rw [if_pos z] at h
  cases h
/-- a comparison's sign -/
theorem zLP_cmp {J : Nat → Nat → Int} {s l c p op m a D : Nat} {f : Fn} {o : Int} (hS : ST G P) (hB : TB b n) (hR : MR J b n od s l c (p + m) op) (hN : PN od J m p a c D f) (hlow : p = 0 ∨ bd (J 221 (p - 1)) < 5) (hE : ∀ j, p ≤ j → j < p + m → 20 ≤ J 221 j ∧ J 221 j ≤ 24) (hX : zX J (p + m)) (hi : ¬ isc (J 221) (p + m) = true) (ho : opC b n s = some o) (hk : ∀ J1 c1, MR J1 b n od (nx b n s) l c1 (p + 1) op → MS od (J1 219) (J1 220) a c1 D f → J1 221 p = o → MFr a p J J1 → zLP d G P 1 Q 1 J1) : zLP d G P 1 Q 3 J := by
  unfold opC at ho
  split at ho
  · rename_i e
    cases ho
    rcases hX with hX | hX
    · obtain ⟨J1, e1, c1, h1, h2, h3, h4⟩ := c_bs_c25_m (d := d + 2) hS hB hR hN e hX hi hlow hE
      exact zLP_3 hS (MR_b hR) e1 (hk J1 c1 h1 h2 h3 h4)
    · obtain ⟨J1, e1, c1, h1, h2, h3, h4⟩ := c_bs_c25_r (d := d + 2) hS hB hR hN e hX hi hlow hE
      exact zLP_3 hS (MR_b hR) e1 (hk J1 c1 h1 h2 h3 h4)
  · split at ho
    · rename_i e
      cases ho
      rcases hX with hX | hX
      · obtain ⟨J1, e1, c1, h1, h2, h3, h4⟩ := c_bs_c26_m (d := d + 2) hS hB hR hN e hX hi hlow hE
        exact zLP_3 hS (MR_b hR) e1 (hk J1 c1 h1 h2 h3 h4)
      · obtain ⟨J1, e1, c1, h1, h2, h3, h4⟩ := c_bs_c26_r (d := d + 2) hS hB hR hN e hX hi hlow hE
        exact zLP_3 hS (MR_b hR) e1 (hk J1 c1 h1 h2 h3 h4)
    · split at ho
      · rename_i e
        cases ho
        rcases hX with hX | hX
        · obtain ⟨J1, e1, c1, h1, h2, h3, h4⟩ := c_bs_c27_m (d := d + 2) hS hB hR hN e hX hi hlow hE
          exact zLP_3 hS (MR_b hR) e1 (hk J1 c1 h1 h2 h3 h4)
        · obtain ⟨J1, e1, c1, h1, h2, h3, h4⟩ := c_bs_c27_r (d := d + 2) hS hB hR hN e hX hi hlow hE
          exact zLP_3 hS (MR_b hR) e1 (hk J1 c1 h1 h2 h3 h4)
      · cases ho
theorem zLP_cmpn {J : Nat → Nat → Int} {s l c p op : Nat} (hS : ST G P) (hB : TB b n) (hR : MR J b n od s l c p op) (hX : zX J p) (hi : ¬ isc (J 221) p = true) (hA : opA b n s = none) (hM : opM b n s = none) (ho : opC b n s = none) (hk : ∀ J', BAD J' s → MFr c p J J' → zLP d G P 1 Q 1 J') : zLP d G P 1 Q 3 J := by
  have hno := no_ops hA hM
  have h60 : ¬ tk b n s = [60] := fun z => by unfold opC at ho; rw [if_pos z] at ho; cases ho
  have h62 : ¬ tk b n s = [62] := fun z => by unfold opC at ho; rw [if_neg h60, if_pos z] at ho; cases ho
  have h61 : ¬ tk b n s = [61] := fun z => by unfold opC at ho; rw [if_neg h60, if_neg h62, if_pos z] at ho; cases ho
  rcases hX with hX | hX
  · exact zLP_3 hS (MR_b hR) (c_bs_cf_m (d := d + 2) hS hB hR hno.1 hno.2.1 hno.2.2.1 hno.2.2.2.1 hno.2.2.2.2 hX hi h60 h62 h61) (hk _ (MR_bad hR) MFr_bad)
  · exact zLP_3 hS (MR_b hR) (c_bs_cf_r (d := d + 2) hS hB hR hno.1 hno.2.1 hno.2.2.1 hno.2.2.2.1 hno.2.2.2.2 hX hi h60 h62 h61) (hk _ (MR_bad hR) MFr_bad)
theorem zLP_cmpd {J : Nat → Nat → Int} {s l c p op : Nat} (hS : ST G P) (hB : TB b n) (hR : MR J b n od s l c p op) (hX : zX J p) (hi : isc (J 221) p = true) (hA : opA b n s = none) (hM : opM b n s = none) (hk : zLP d G P 1 Q 2 J) : zLP d G P 1 Q 3 J := by
  have hno := no_ops hA hM
  rcases hX with hX | hX
  · exact zLP_3 hS (MR_b hR) (c_bs_cd_m (d := d + 2) hS hB hR hno.1 hno.2.1 hno.2.2.1 hno.2.2.2.1 hno.2.2.2.2 hX hi) hk
  · exact zLP_3 hS (MR_b hR) (c_bs_cd_r (d := d + 2) hS hB hR hno.1 hno.2.1 hno.2.2.1 hno.2.2.2.1 hno.2.2.2.2 hX hi) hk
theorem bd_4 {J : Nat → Nat → Int} {p : Nat} {v w : Int} (h : p = 0 ∨ bd (J 221 (p - 1)) < v) (hv : v ≤ w) : p = 0 ∨ bd (J 221 (p - 1)) < w := by
  rcases h with h | h
  · exact Or.inl h
  · exact Or.inr (by omega)
theorem z_plain0 {T : Option (Nat → Nat → Rs)} {S : Nat → Nat → Rs} {op E D : Nat} (hS : ST G P) (hB : TB b n) (hDE : E + 1 ≤ D) (hU : zKU (zLP d G P 1 Q) b n od op E S) (h0 : T = none → op = 8) (h1 : ∀ g, T = some g → op < 8 ∧ zKR (zLP d G P 1 Q) b n od (op + 1) D g) {J : Nat → Nat → Int} {s l c p : Nat} (hR : MR J b n od s l c p op) (hlow : p = 0 ∨ bd (J 221 (p - 1)) < 4) (hX : zX J p) (hno : ¬ tk b n s = [110, 111, 116]) : (∀ x, px_plain0 b n T S s l = .inl x → zCB (zLP d G P 1 Q) x c p J → zLP d G P 1 Q 0 J) ∧ (∀ s' l' f, px_plain0 b n T S s l = .inr (s', l', f) → (∀ J' m c', MR J' b n od s' l' c' (p + m) op → PN od J' m p c c' D f → (∀ j, p ≤ j → j < p + m → 20 ≤ J' 221 j ∧ J' 221 j ≤ 28) → MFr c p J J' → zLP d G P 1 Q 2 J') → zLP d G P 1 Q 0 J) := by
  by_cases h40 : tk b n s = [40]
  · cases hTe : T with
    | none =>
      have e : px_plain0 b n none S s l = .inl s := by unfold px_plain0; rw [if_pos h40]
      rw [e]
      refine ⟨fun x hx hb => ?_, fun s' l' f hx => (by cases hx)⟩
      cases hx
      exact zLP_0 hS (MR_b hR) (c_plain_bf (d := d) hS hB hR hno h40 (h0 hTe)) (hb _ _ (MR_bad hR) MFr_bad)
    | some g =>
      obtain ⟨hop, hg⟩ := h1 g hTe
      obtain ⟨J1, e1, r1, p1, f1⟩ := c_plain_bt (d := d) hS hB hR hno h40 hop
      have hu := hg J1 (nx b n s) l c (p + 1) r1 (Or.inr (by rw [show p + 1 - 1 = p by omega, p1]; decide)) (Or.inr (by rw [inrF_succ, p1]; rfl))
      cases hgv : g (nx b n s) l with
      | inl x =>
        have e : px_plain0 b n (some g) S s l = .inl x := by unfold px_plain0; rw [if_pos h40]; simp only [hgv]
        rw [e]
        refine ⟨fun y hy hb => ?_, fun s' l' f hx => (by cases hx)⟩
        cases hy
        exact zLP_0 hS (MR_b hR) e1 (hu.1 x hgv (zCB_fr hb f1 (Nat.le_refl _) (by omega)))
      | inr q =>
        obtain ⟨s3, l3, f⟩ := q
        by_cases hcl : tk b n s3 = [41]
        · have e : px_plain0 b n (some g) S s l = .inr (nx b n s3, l3, f) := by unfold px_plain0; rw [if_pos h40]; simp only [hgv, if_pos hcl]
          rw [e]
          refine ⟨fun y hy => (by cases hy), fun s' l' f' hx hc => ?_⟩
          cases hx
          refine zLP_0 hS (MR_b hR) e1 (hu.2 s3 l3 f hgv (fun J3 m c3 r3 n3 e3 a3 o3 f3 => ?_))
          have hbr : J3 221 p = 31 := (f3 221 p (by omega) (by omega) (by omega)).trans p1
          obtain ⟨J4, e4, c4, r4, m4, hc4, f4⟩ := c_rd_t (d := d + 2) hS hB r3 n3 (no_and a3) (no_or o3) hbr e3 (by omega) hcl
          rw [show op + 1 - 1 = op by omega] at r4
          exact zLP_2 hS (MR_b r3) e4 (hc J4 0 c4 r4 m4 (fun j a1 a2 => absurd a2 (by omega)) (MFr_trans f1 (MFr_trans (MFr_trans (p := p) (a := c) MFr_refl f3 (Nat.le_refl _) (by omega)) f4 (Nat.le_refl _) (Nat.le_refl _)) (Nat.le_refl _) (Nat.le_refl _)))
        · have e : px_plain0 b n (some g) S s l = .inl s3 := by unfold px_plain0; rw [if_pos h40]; simp only [hgv, if_neg hcl]
          rw [e]
          refine ⟨fun y hy hb => ?_, fun s' l' f' hx => (by cases hx)⟩
          cases hy
          refine zLP_0 hS (MR_b hR) e1 (hu.2 s3 l3 f hgv (fun J3 m c3 r3 n3 e3 a3 o3 f3 => ?_))
          have hbr : J3 221 p = 31 := (f3 221 p (by omega) (by omega) (by omega)).trans p1
          exact zLP_2 hS (MR_b r3) (c_rd_f (d := d + 2) hS hB r3 n3 (no_and a3) (no_or o3) hbr e3 hcl) (hb _ _ (MR_bad r3) (MFr_trans f1 (MFr_trans (MFr_trans (p := p) (a := c) MFr_refl f3 (Nat.le_refl _) (by omega)) MFr_bad (Nat.le_refl _) (Nat.le_refl _)) (Nat.le_refl _) (Nat.le_refl _)))
  · have e : px_plain0 b n T S s l = px_cmp b n S s l := by unfold px_plain0; rw [if_neg h40]
    rw [e]
    have hu := hU J s l c p 0 hR (Or.inr ⟨rfl, hno, h40⟩) (bd_4 hlow (by decide))
    unfold px_cmp
    cases hv1 : S s l with
    | inl x => exact ⟨fun y hy hb => by cases hy; exact hu.1 x hv1 hb, fun s' l' f hx => (by cases hx)⟩
    | inr q =>
      obtain ⟨s2, l2, f⟩ := q
      have hlow2 : ∀ {J2 : Nat → Nat → Int}, MFr c p J J2 → (p = 0 ∨ bd (J2 221 (p - 1)) < 4) := fun f2 => hlow_fr hlow f2
      cases ho : opC b n s2 with
      | none =>
        simp only [ho]
        refine ⟨fun y hy hb => ?_, fun s' l' f' hx => (by cases hx)⟩
        cases hy
        refine hu.2 s2 l2 f hv1 (fun J2 m c2 r2 n2 e2 a2 o2 f2 => ?_)
        have hi : ¬ isc (J2 221) (p + m) = true := by
          rw [isc_ext m e2]
          have hP2 := MR_P r2
          exact isc_low (fun j hj => (hP2.2.2.2 j (by omega)).1) (hlow2 f2)
        exact zLP_cmpn hS hB r2 (zX_ext (zX_fr hX f2) (fun j a1 a3 => by have := e2 j a1 a3; omega)) hi a2 o2 ho (fun J' b1 f3 => hb J' 1 b1 (MFr_trans f2 f3 (by have := PN_lt _ _ _ _ _ _ n2; omega) (by omega)))
      | some o =>
        have hoo := oo_C ho
        have hstep : ∀ (C : Prop), (∀ J3 c3, MR J3 b n od (nx b n s2) l2 c3 (p + 1) op → MS od (J3 219) (J3 220) c c3 E f → J3 221 p = o → MFr c p J J3 → zLP d G P 1 Q 1 J3) → zLP d G P 1 Q 0 J := by
          intro _ hk
          refine hu.2 s2 l2 f hv1 (fun J2 m c2 r2 n2 e2 a2 o2 f2 => ?_)
          have hi : ¬ isc (J2 221) (p + m) = true := by
            rw [isc_ext m e2]
            have hP2 := MR_P r2
            exact isc_low (fun j hj => (hP2.2.2.2 j (by omega)).1) (hlow2 f2)
          exact zLP_cmp hS hB r2 n2 (bd_4 (hlow2 f2) (by decide)) e2 (zX_ext (zX_fr hX f2) (fun j a1 a3 => by have := e2 j a1 a3; omega)) hi ho (fun J3 c3 r3 m3 p3 f3 => hk J3 c3 r3 m3 p3 (MFr_trans f2 f3 (Nat.le_refl _) (Nat.le_refl _)))
        have hb4 : bd o < 5 := by
          have := (bd_t (o := o) (by omega)).2.2.2 (by omega)
          omega
        cases hv2 : S (nx b n s2) l2 with
        | inl x =>
          simp only [ho, hv2]
          refine ⟨fun y hy hb => ?_, fun s' l' f' hx => (by cases hx)⟩
          cases hy
          refine hstep True (fun J3 c3 r3 m3 p3 f3 => ?_)
          exact (hU J3 (nx b n s2) l2 c3 (p + 1) 1 r3 (Or.inl rfl) (Or.inr (by rw [show p + 1 - 1 = p by omega, p3]; exact hb4))).1 x hv2 (zCB_fr hb f3 (by have := m3.1; omega) (by omega))
        | inr q =>
          obtain ⟨s4, l4, g⟩ := q
          simp only [ho, hv2]
          refine ⟨fun y hy => (by cases hy), fun s' l' f' hx hc => ?_⟩
          cases hx
          refine hstep True (fun J3 c3 r3 m3 p3 f3 => ?_)
          refine (hU J3 (nx b n s2) l2 c3 (p + 1) 1 r3 (Or.inl rfl) (Or.inr (by rw [show p + 1 - 1 = p by omega, p3]; exact hb4))).2 s4 l4 g hv2 (fun J4 m c4 r4 n4 e4 a4 o4 f4 => ?_)
          have h221 : J4 221 p = o := (f4 221 p (by omega) (by omega) (by omega)).trans p3
          have hm3 := m3.1
          have f34 : MFr c p J J4 := MFr_trans f3 f4 (by omega) (by omega)
          have ent : ∀ j, p ≤ j → j < p + (m + 1) → 20 ≤ J4 221 j ∧ J4 221 j ≤ 28 := fun j a1 a2 => by
            by_cases e : j = p
            · rw [e, h221]; omega
            · have := e4 j (by omega) (by omega); omega
          have hi : isc (J4 221) (p + 1 + m) = true := by
            rw [isc_ext m e4]
            show (if 20 ≤ J4 221 p ∧ J4 221 p ≤ 24 then isc (J4 221) p else decide (25 ≤ J4 221 p ∧ J4 221 p ≤ 27)) = true
            rw [h221, if_neg (by omega)]
            exact decide_eq_true (by omega)
          have hX4 : zX J4 (p + 1 + m) := by
            have := zX_ext (m := m + 1) (zX_fr hX f34) (fun j a1 a2 => by have := ent j a1 a2; omega)
            rw [show p + (m + 1) = p + 1 + m by omega] at this
            exact this
          refine zLP_cmpd hS hB r4 hX4 hi a4 o4 (hc J4 (m + 1) c4 (by rw [show p + (m + 1) = p + 1 + m by omega]; exact r4) (Or.inl ⟨c3, E, E, f, g, by rw [h221]; omega, MS_congr m3 (fun k a1 a2 => ⟨f4 _ _ (by omega) (by omega) (by omega), f4 _ _ (by omega) (by omega) (by omega)⟩), by omega, n4, hDE, by rw [h221]⟩) ent f34)
theorem px_not_s {c : Nat} {r : Rs} : px_not (c + 1) r = (match px_not c r with
    | .inl x => .inl x
    | .inr (s, l, f) => .inr (s, l, fun w => f_not (f w))) := by
  have e2 : ∀ f : Option Int, f_not (f_not f) = f := by
    intro f
    cases f with
    | none => rfl
    | some x => show some (1 - (1 - x)) = some x; congr 1; omega
  cases r with
  | inl x => rfl
  | inr q =>
    obtain ⟨s, l, f⟩ := q
    unfold px_not
    by_cases h : c % 2 = 1
    · simp only [if_pos h]
      rw [if_neg (by omega)]
      congr 1
      congr 1
      congr 1
      funext w
      exact (e2 (f w)).symm
    · simp only [if_neg h]
      rw [if_pos (by omega)]
theorem z_nots {T : Option (Nat → Nat → Rs)} {S : Nat → Nat → Rs} {op E D : Nat} (hS : ST G P) (hB : TB b n) (hDE : E + 1 ≤ D) (hU : zKU (zLP d G P 1 Q) b n od op E S) (h0 : T = none → op = 8) (h1 : ∀ g, T = some g → op < 8 ∧ zKR (zLP d G P 1 Q) b n od (op + 1) D g) (hG : IG n Vt (px_plain0 b n T S)) : ∀ (k : Nat) (J : Nat → Nat → Int) (s l c p : Nat), MR J b n od s l c p op → (p = 0 ∨ bd (J 221 (p - 1)) < 4) → zX J p → 400 ≤ k + s → (∀ x, px_not (nts b n k s).2 (px_plain0 b n T S (nts b n k s).1 l) = .inl x → zCB (zLP d G P 1 Q) x c p J → zLP d G P 1 Q 0 J) ∧ (∀ s' l' f, px_not (nts b n k s).2 (px_plain0 b n T S (nts b n k s).1 l) = .inr (s', l', f) → (∀ J' m c', MR J' b n od s' l' c' (p + m) op → PN od J' m p c c' D f → (∀ j, p ≤ j → j < p + m → 20 ≤ J' 221 j ∧ J' 221 j ≤ 28) → MFr c p J J' → zLP d G P 1 Q 2 J') → zLP d G P 1 Q 0 J) := by
  intro k
  have base : ∀ (k : Nat) (J : Nat → Nat → Int) (s l c p : Nat), nts b n k s = (s, 0) → ¬ tk b n s = [110, 111, 116] → MR J b n od s l c p op → (p = 0 ∨ bd (J 221 (p - 1)) < 4) → zX J p → (∀ x, px_not (nts b n k s).2 (px_plain0 b n T S (nts b n k s).1 l) = .inl x → zCB (zLP d G P 1 Q) x c p J → zLP d G P 1 Q 0 J) ∧ (∀ s' l' f, px_not (nts b n k s).2 (px_plain0 b n T S (nts b n k s).1 l) = .inr (s', l', f) → (∀ J' m c', MR J' b n od s' l' c' (p + m) op → PN od J' m p c c' D f → (∀ j, p ≤ j → j < p + m → 20 ≤ J' 221 j ∧ J' 221 j ≤ 28) → MFr c p J J' → zLP d G P 1 Q 2 J') → zLP d G P 1 Q 0 J) := by
    intro k J s l c p hnt hno hR hlow hX
    rw [hnt]
    have e : px_not 0 (px_plain0 b n T S s l) = px_plain0 b n T S s l := by
      unfold px_not
      cases px_plain0 b n T S s l with
      | inl x => rfl
      | inr q => obtain ⟨s1, l1, f1⟩ := q; rfl
    show (∀ x, px_not 0 (px_plain0 b n T S s l) = .inl x → _) ∧ (∀ s' l' f, px_not 0 (px_plain0 b n T S s l) = .inr (s', l', f) → _)
    rw [e]
    exact z_plain0 hS hB hDE hU h0 h1 hR hlow hX hno
  induction k with
  | zero =>
    intro J s l c p hR hlow hX hk
    have hn := hB.1
    exact base 0 J s l c p rfl (by rw [tk_end (by omega)]; decide) hR hlow hX
  | succ k ih =>
    intro J s l c p hR hlow hX hk
    by_cases hkw : tk b n s = [110, 111, 116]
    · have hlt := tk_lt (MR_s hR) hkw
      have hnx := nx_2 (b := b) s hlt
      have h1' : (nts b n (k + 1) s).1 = (nts b n k (nx b n s)).1 := by show (if _ then _ else _ : Nat × Nat).1 = _; rw [if_pos hkw]
      have h2' : (nts b n (k + 1) s).2 = (nts b n k (nx b n s)).2 + 1 := by show (if _ then _ else _ : Nat × Nat).2 = _; rw [if_pos hkw]
      rw [h1', h2', px_not_s]
      obtain ⟨J1, e1, r1, p1, f1⟩ := c_plain_not (d := d + 2) hS hB hR hkw
      have hi := ih J1 (nx b n s) l c (p + 1) r1 (Or.inr (by rw [show p + 1 - 1 = p by omega, p1]; decide)) (by
        have := zX_ext (m := 1) (zX_fr hX f1) (fun j a1 a2 => by rw [show j = p by omega, p1]; decide)
        exact this) (by omega)
      have hgi := px_not_ok (c := (nts b n k (nx b n s)).2) (hG (nts b n k (nx b n s)).1 l (nts_ok (b := b) k _ hnx.2).2 (MR_l hR))
      cases hv : px_not (nts b n k (nx b n s)).2 (px_plain0 b n T S (nts b n k (nx b n s)).1 l) with
      | inl x =>
        refine ⟨fun y hy hb => ?_, fun s' l' f hx => (by cases hx)⟩
        cases hy
        exact zLP_0 hS (MR_b hR) e1 (hi.1 x hv (zCB_fr hb f1 (Nat.le_refl _) (by omega)))
      | inr q =>
        obtain ⟨s3, l3, f⟩ := q
        rw [hv] at hgi
        refine ⟨fun y hy => (by cases hy), fun s' l' f' hx hc => ?_⟩
        cases hx
        refine zLP_0 hS (MR_b hR) e1 (hi.2 s3 l3 f hv (fun J3 m c3 r3 n3 e3 f3 => ?_))
        have h221 : J3 221 p = 28 := (f3 221 p (by omega) (by omega) (by omega)).trans p1
        exact hc J3 (m + 1) c3 (by rw [show p + (m + 1) = p + 1 + m by omega]; exact r3) (Or.inr (Or.inl ⟨h221, f, n3, hgi.2.2.2.2, rfl⟩)) (fun j a1 a2 => by
          by_cases e : j = p
          · rw [e, h221]; decide
          · exact e3 j (by omega) (by omega)) (MFr_trans f1 f3 (Nat.le_refl _) (by omega))
    · exact base (k + 1) J s l c p (by unfold nts; rw [if_neg hkw]) hkw hR hlow hX
theorem z_plain {T : Option (Nat → Nat → Rs)} {S : Nat → Nat → Rs} {op E D : Nat} (hS : ST G P) (hB : TB b n) (hDE : E + 1 ≤ D) (hU : zKU (zLP d G P 1 Q) b n od op E S) (h0 : T = none → op = 8) (h1 : ∀ g, T = some g → op < 8 ∧ zKR (zLP d G P 1 Q) b n od (op + 1) D g) (hG : IG n Vt (px_plain0 b n T S)) : zKQ (zLP d G P 1 Q) b n od op D (px_plain b n T S) := fun J s l c p hR hlow hX => z_nots hS hB hDE hU h0 h1 hG 400 J s l c p hR hlow hX (by omega)
end
