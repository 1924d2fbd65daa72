/-! ===== ways ===== -/
theorem CC_fr {I J : Nat → Nat → Int} {c : Nat} {ρ : Nat → Int} (h : CC I c ρ) (hf : ∀ q k, c ≤ q → q ≤ c + 15 → ¬ q = c + 4 → J q k = I q k) : CC J c ρ := ⟨(hf _ _ (by omega) (by omega) (by omega)).trans (CC_n0 h), (hf _ _ (by omega) (by omega) (by omega)).trans (CC_n1 h), (hf _ _ (by omega) (by omega) (by omega)).trans (CC_n2 h), (hf _ _ (by omega) (by omega) (by omega)).trans (CC_n3 h), (hf _ _ (by omega) (by omega) (by omega)).trans (CC_fo h), (hf _ _ (by omega) (by omega) (by omega)).trans (CC_sm h), fun j hj => (hf _ _ (by omega) (by omega) (by omega)).trans (CC_ki h j hj), fun j hj => (hf _ _ (by omega) (by omega) (by omega)).trans (CC_ra h j hj), fun j hj => (hf _ _ (by omega) (by omega) (by omega)).trans (CC_at h j hj), fun j hj => (hf _ _ (by omega) (by omega) (by omega)).trans (CC_by h j hj), fun j hj => (hf _ _ (by omega) (by omega) (by omega)).trans (CC_ea h j hj), fun j hj => (hf _ _ (by omega) (by omega) (by omega)).trans (CC_en h j hj), fun j hj => (hf _ _ (by omega) (by omega) (by omega)).trans (CC_we h j hj), fun j hj => (hf _ _ (by omega) (by omega) (by omega)).trans (CC_kn h j hj), fun j hj => (hf _ _ (by omega) (by omega) (by omega)).trans (CC_te h j hj), fun j hj => (hf _ _ (by omega) (by omega) (by omega)).trans (CC_ro h j hj), fun j hj => (hf _ _ (by omega) (by omega) (by omega)).trans (CC_nr h j hj), fun j hj => (hf _ _ (by omega) (by omega) (by omega)).trans (CC_h1 h j hj), fun j hj => (hf _ _ (by omega) (by omega) (by omega)).trans (CC_h2 h j hj)⟩
theorem cq65 : CQ 65 := Or.inl rfl
theorem CC_far {I : Nat → Nat → Int} {ρ f : Nat → Int} (h : CC I 65 ρ) : CC (am_u1 I 69 f) 65 ρ := CC_fr h (fun q k _ _ h3 => u1_qk (by omega))
theorem am_it_rel {σ τ : Type} {f : Nat → σ → σ} {g : Nat → τ → τ} {R : Nat → σ → τ → Prop} {N : Nat} (h : ∀ i s t, i < N → R i s t → R (i + 1) (f i s) (g i t)) : ∀ (k i : Nat) (s : σ) (t : τ), i + k = N → R i s t → R N (am_it f k i s) (am_it g k i t)
  | 0, i, s, t, e, r => by
    have : i = N := by omega
    subst this; exact r
  | k + 1, i, s, t, e, r => am_it_rel h k (i + 1) (f i s) (g i t) (by omega) (h i s t (by omega) r)
theorem fnd_ex (p : Nat → Bool) : ∀ (k i : Nat), (∃ j, i ≤ j ∧ j < i + k ∧ p j = true) → p (fnd p k i) = true ∧ fnd p k i < i + k ∧ ∀ x, i ≤ x → x < fnd p k i → ¬ p x = true
  | 0, i, ⟨j, h1, h2, _⟩ => absurd h2 (by omega)
  | k + 1, i, ⟨j, h1, h2, h3⟩ => by
    unfold fnd
    by_cases h : p i = true
    · rw [if_pos h]; exact ⟨h, by omega, fun x a b => absurd b (by omega)⟩
    · rw [if_neg h]
      have hj : ¬ j = i := fun e => h (e ▸ h3)
      obtain ⟨a, b, c⟩ := fnd_ex p k (i + 1) ⟨j, by omega, by omega, h3⟩
      refine ⟨a, by omega, fun x h1 h2 => ?_⟩
      by_cases e : x = i
      · rw [e]; exact h
      · exact c x (by omega) h2
def enc (v : Int) : Int := if v = 100000000 then -1 else v
def l_init (to_ : Nat) : Nat → Int := fun x => if x = to_ then 0 else 100000000
/-- how far each box is -/
def lc (ρ : Nat → Int) (to_ : Nat) : Nat → Int := lrn ρ 6 (l_init to_)
theorem l_init_w {to_ : Nat} : m_lw (l_init to_) := by
  intro b _; unfold l_init; split <;> omega
theorem l_init_sup {ρ : Nat → Int} {to_ : Nat} : Sup ρ to_ (l_init to_) := by
  intro x _
  unfold l_init
  by_cases h : x = to_
  · right; left; exact ⟨h, if_pos h⟩
  · left; exact if_neg h
theorem l_init_0 {to_ : Nat} : l_init to_ to_ = 0 := if_pos rfl
theorem lc_5 {ρ : Nat → Int} {to_ : Nat} (h1 : hroad ρ) (ht : to_ < 6) : ∀ x, x < 6 → lc ρ to_ x = lrn ρ 5 (l_init to_) x := by
  intro x hx
  unfold lc
  rw [lrn_succ]
  exact lrn_5 h1 ht l_init_w l_init_sup l_init_0 x hx
theorem lc_w {ρ : Nat → Int} {to_ : Nat} (h1 : hroad ρ) : m_lw (lc ρ to_) := lrn_w h1 l_init_w 6
theorem lc_sup {ρ : Nat → Int} {to_ : Nat} (h1 : hroad ρ) : Sup ρ to_ (lc ρ to_) := lrn_sup h1 l_init_w l_init_sup 6
theorem m_l1_congr {ρ l l' : Nat → Int} {b o : Nat} (hb : b < 6) (ho : o < 6) (h : ∀ x, x < 6 → l x = l' x) : ∀ x, x < 6 → m_l1 ρ b o l x = m_l1 ρ b o l' x := by
  intro x hx
  unfold m_l1 am_u1 m_cost
  rw [h b hb, h o ho, h x hx]
theorem m_lr_congr {ρ l l' : Nat → Int} (h : ∀ x, x < 6 → l x = l' x) : ∀ x, x < 6 → m_lr ρ l x = m_lr ρ l' x := by
  rw [m_lr_flat, m_lr_flat]
  exact am_it_rel (f := fun i l => m_l1 ρ (i / 6) (i % 6) l) (g := fun i l => m_l1 ρ (i / 6) (i % 6) l) (R := fun _ l l' => ∀ x, x < 6 → l x = l' x) (N := 36) (fun i s t hi r => m_l1_congr (b := i / 6) (o := i % 6) (by omega) (by omega) r) 36 0 l l' rfl h
theorem lc_clo {ρ : Nat → Int} {to_ : Nat} (h1 : hroad ρ) (ht : to_ < 6) : Clo ρ (lc ρ to_) := by
  apply m_lr_fix
  intro x hx
  have e5 := lc_5 h1 ht
  rw [m_lr_congr e5 x hx, e5 x hx]
  exact lrn_5 h1 ht l_init_w l_init_sup l_init_0 x hx
/-- the reference's row of distances -/
theorem m_left_lc {ρ l : Nat → Int} {to_ : Nat} : ∀ x, x < 6 → m_left ρ to_ l x = lc ρ to_ x := by
  have h0 : ∀ x, x < 6 → am_it (fun b l => m_l0 to_ b l) 6 0 l x = l_init to_ x := by
    refine am_it_inv (f := fun b l => m_l0 to_ b l) (inv := fun i t => ∀ x, x < i → t x = l_init to_ x) (N := 6) (fun i t hi h x hx => ?_) 6 0 l rfl (fun x hx => absurd hx (by omega))
    show m_l0 to_ i t x = l_init to_ x
    unfold m_l0 am_u1 l_init
    split
    · rename_i e; rw [e]
    · exact h x (by omega)
  exact am_it_rel (f := fun _ l => m_lr ρ l) (g := fun _ l => m_lr ρ l) (R := fun _ (l l' : Nat → Int) => ∀ x, x < 6 → l x = l' x) (N := 6) (fun i s t hi r => m_lr_congr r) 6 0 _ _ rfl h0
/-- the class's row of distances -/
def k_s1 (ρ : Nat → Int) (b o : Nat) (f : Nat → Int) : Nat → Int := if 0 < ρ (52 + 6 * b + o) ∧ ¬ f o = -1 ∧ (f b = -1 ∨ f o + ρ (52 + 6 * b + o) < f b) then am_u1 f b (f o + ρ (52 + 6 * b + o)) else f
def k_f0 (to_ : Nat) (b : Nat) (f : Nat → Int) : Nat → Int := am_u1 f b (if b = to_ then 0 else -1)
def k_fr (ρ : Nat → Int) (f : Nat → Int) : Nat → Int := am_it (fun i f => k_s1 ρ (i / 6) (i % 6) f) 36 0 f
def k_far (ρ : Nat → Int) (to_ : Nat) (f : Nat → Int) : Nat → Int := am_it (fun _ f => k_fr ρ f) 5 1 (am_it (fun b f => k_f0 to_ b f) 6 0 f)
def fb (t : Nat) (f : Nat → Int) : Prop := ∀ x, x < 6 → -1 ≤ f x ∧ f x ≤ 9 * (t : Int)
theorem k_s1_b {ρ f : Nat → Int} {b o t : Nat} (h1 : hroad ρ) (hb : b < 6) (ho : o < 6) (hf : fb t f) : fb (t + 1) (k_s1 ρ b o f) := by
  intro x hx
  have a := hroad_at h1 hb ho
  have e := hf x hx
  have e2 := hf o ho
  unfold k_s1
  split
  · unfold am_u1; split <;> omega
  · omega
theorem k_fr_b {ρ f : Nat → Int} {t : Nat} (h1 : hroad ρ) (hf : fb t f) : fb (t + 36) (k_fr ρ f) := am_it_inv (f := fun i f => k_s1 ρ (i / 6) (i % 6) f) (inv := fun i f => fb (t + i) f) (N := 36) (fun i s hi h => k_s1_b h1 (by omega) (by omega) h) 36 0 f rfl hf
def fl (t : Nat) (f l : Nat → Int) : Prop := ∀ x, x < 6 → f x = enc (l x) ∧ (l x = 100000000 ∨ (0 ≤ l x ∧ l x ≤ 9 * (t : Int)))
theorem fl_s1 {ρ f l : Nat → Int} {b o t : Nat} (h1 : hroad ρ) (hb : b < 6) (ho : o < 6) (ht : t ≤ 1000) (h : fl t f l) : fl (t + 1) (k_s1 ρ b o f) (m_l1 ρ b o l) := by
  intro x hx
  have a := hroad_at h1 hb ho
  have ex := h x hx
  have eb := h b hb
  have eo := h o ho
  unfold enc at ex eb eo
  have key : (0 < ρ (52 + 6 * b + o) ∧ ¬ f o = -1 ∧ (f b = -1 ∨ f o + ρ (52 + 6 * b + o) < f b)) ↔ m_cost ρ l b o < l b := by
    unfold m_cost
    split at eb <;> split at eo <;> split <;> omega
  by_cases hc : m_cost ρ l b o < l b
  · have e1 : k_s1 ρ b o f = am_u1 f b (f o + ρ (52 + 6 * b + o)) := if_pos (key.mpr hc)
    have e2 : m_l1 ρ b o l = am_u1 l b (m_cost ρ l b o) := by unfold m_l1; rw [if_pos hc]
    have hcost : m_cost ρ l b o = ρ (52 + 6 * b + o) + l o ∧ ¬ l o = 100000000 := by
      unfold m_cost at hc ⊢
      split at hc
      · exfalso; omega
      · rename_i q; rw [if_neg q]; exact ⟨rfl, by omega⟩
    rw [if_neg hcost.2] at eo
    rw [e1, e2]
    unfold am_u1
    by_cases e : x = b
    · rw [if_pos e, if_pos e, hcost.1]
      unfold enc
      rw [if_neg (by omega)]
      omega
    · rw [if_neg e, if_neg e]
      unfold enc
      exact ⟨ex.1, by omega⟩
  · have e1 : k_s1 ρ b o f = f := if_neg (fun z => hc (key.mp z))
    have e2 : m_l1 ρ b o l x = l x := by
      unfold m_l1 am_u1
      rw [if_neg hc]
      split
      · rename_i q; rw [q]
      · rfl
    rw [e1, e2]
    unfold enc
    exact ⟨ex.1, by omega⟩
theorem fl_fr {ρ f l : Nat → Int} {t : Nat} (h1 : hroad ρ) (ht : t ≤ 500) (h : fl t f l) : fl (t + 36) (k_fr ρ f) (m_lr ρ l) := by
  rw [m_lr_flat]
  exact am_it_rel (f := fun i f => k_s1 ρ (i / 6) (i % 6) f) (g := fun i l => m_l1 ρ (i / 6) (i % 6) l) (R := fun i f l => fl (t + i) f l) (N := 36) (fun i s u hi r => fl_s1 (t := t + i) (b := i / 6) (o := i % 6) h1 (by omega) (by omega) (by omega) r) 36 0 f l rfl h
theorem k_far_lc {ρ f : Nat → Int} {to_ : Nat} (h1 : hroad ρ) (ht : to_ < 6) : ∀ x, x < 6 → k_far ρ to_ f x = enc (lc ρ to_ x) := by
  have h0 : fl 0 (am_it (fun b f => k_f0 to_ b f) 6 0 f) (l_init to_) := by
    refine am_it_inv (f := fun b f => k_f0 to_ b f) (inv := fun i t => ∀ x, x < i → t x = enc (l_init to_ x) ∧ (l_init to_ x = 100000000 ∨ (0 ≤ l_init to_ x ∧ l_init to_ x ≤ 9 * ((0 : Nat) : Int)))) (N := 6) (fun i t hi h x hx => ?_) 6 0 f rfl (fun x hx => absurd hx (by omega))
    show k_f0 to_ i t x = enc (l_init to_ x) ∧ _
    by_cases e : x = i
    · subst e
      unfold k_f0 am_u1 enc l_init
      rw [if_pos rfl]
      by_cases e2 : x = to_
      · rw [if_pos e2, if_pos e2]; exact ⟨rfl, Or.inr ⟨by decide, by decide⟩⟩
      · rw [if_neg e2, if_neg e2]; exact ⟨rfl, Or.inl rfl⟩
    · have := h x (by omega)
      unfold k_f0 am_u1
      rw [if_neg e]; exact this
  have h5 : fl (36 * 5) (k_far ρ to_ f) (lrn ρ 5 (l_init to_)) := by
    have := am_it_rel (f := fun _ f => k_fr ρ f) (g := fun _ l => m_lr ρ l) (R := fun i f l => fl (36 * i) f l) (N := 5) (fun i s u hi r => fl_fr (t := 36 * i) h1 (by omega) r) 5 0 _ _ rfl h0
    rw [am_it_c 5 0 1 (am_it (fun b f => k_f0 to_ b f) 6 0 f)] at this
    exact this
  intro x hx
  rw [lc_5 h1 ht x hx]
  exact (h5 x hx).1
/-- the next box on the way -/
def nxt (ρ l : Nat → Int) (a : Nat) : Nat := fnd (fun o => decide (m_cost ρ l a o = l a)) 6 0
theorem nxt_ok {ρ l : Nat → Int} {to_ a : Nat} (h1 : hroad ρ) (hw : m_lw l) (hc : Clo ρ l) (hs : Sup ρ to_ l) (ha : a < 6) (hne : ¬ a = to_) (hl : l a < 100000000) : m_cost ρ l a (nxt ρ l a) = l a ∧ nxt ρ l a < 6 ∧ (∀ x, x < nxt ρ l a → ¬ m_cost ρ l a x = l a) ∧ l (nxt ρ l a) < l a := by
  have hex : ∃ j, 0 ≤ j ∧ j < 0 + 6 ∧ decide (m_cost ρ l a j = l a) = true := by
    rcases hs a ha with h | ⟨h, _⟩ | ⟨o, ho, r1, r2⟩
    · omega
    · exact absurd h hne
    · refine ⟨o, by omega, by omega, decide_eq_true ?_⟩
      have c := hc a o ha ho
      unfold m_cost at c ⊢
      rw [if_neg (by omega)] at c ⊢
      omega
  obtain ⟨e1, e2, e3⟩ := fnd_ex (fun o => decide (m_cost ρ l a o = l a)) 6 0 hex
  have e1 : m_cost ρ l a (nxt ρ l a) = l a := of_decide_eq_true e1
  have e2 : nxt ρ l a < 6 := by unfold nxt; omega
  refine ⟨e1, e2, fun x hx z => e3 x (by omega) hx (decide_eq_true z), ?_⟩
  have a := hroad_at h1 ha e2
  unfold m_cost at e1
  split at e1
  · omega
  · omega
theorem nxt_iff {ρ l : Nat → Int} {a j : Nat} (h1 : hroad ρ) (hw : m_lw l) (ha : a < 6) (hj : j < 6) (hl : l a < 100000000) : m_cost ρ l a j = l a ↔ 0 < ρ (52 + 6 * a + j) ∧ ¬ enc (l j) = -1 ∧ enc (l j) + ρ (52 + 6 * a + j) = enc (l a) := by
  have r := hroad_at h1 ha hj
  have w := hw j hj
  have w2 := hw a ha
  unfold m_cost enc
  split <;> split <;> (try split) <;> omega
def wrk (l : Nat → Int) (a : Nat) : Nat := cn (fun y => decide (l y < l a)) 6
theorem wrk_5 {l : Nat → Int} {a : Nat} (ha : a < 6) : wrk l a ≤ 5 := by
  have := cn_lt (p := fun y => decide (l y < l a)) (q := fun _ => true) 6 (fun _ _ _ => rfl) ⟨a, ha, by intro z; have := of_decide_eq_true z; omega, rfl⟩
  have b := cn_n (p := fun _ => true) 6
  unfold wrk; omega
theorem wrk_lt {l : Nat → Int} {a b : Nat} (hb : b < 6) (h : l b < l a) : wrk l b < wrk l a := cn_lt 6 (fun x _ z => decide_eq_true (by have := of_decide_eq_true z; omega)) ⟨b, hb, by intro z; have := of_decide_eq_true z; omega, decide_eq_true h⟩
/-- the i-th box of the way -/
def wst (ρ l : Nat → Int) (to_ : Nat) : Nat → Nat → Int
  | 0, a => if a = to_ then -1 else (nxt ρ l a : Int)
  | n + 1, a => if a = to_ then -1 else wst ρ l to_ n (nxt ρ l a)
theorem wst_to {ρ l : Nat → Int} {to_ : Nat} : ∀ n, wst ρ l to_ n to_ = -1
  | 0 => if_pos rfl
  | _ + 1 => if_pos rfl
def m_way (ρ : Nat → Int) (fr to_ : Nat) (i : Int) : Int := if lc ρ to_ fr = 100000000 then -1 else if i = -1 then lc ρ to_ fr else wst ρ (lc ρ to_) to_ i.toNat fr
theorem k_shorten {d : Nat} {G : am_G} {I : Nat → Nat → Int} {P : Nat → Nat → Option Nat} (hS : ST G P) {ρ : Nat → Int} (hcc : CC I 65 ρ) (h1 : hroad ρ) {f : Nat → Int} {b o : Nat} (hb : b < 6) (ho : o < 6) (hf : ∀ x, x < 6 → -1 ≤ f x ∧ f x ≤ 1000000) : am_call am_B am_M (d + 2) 86 [(.inr (.inr (some 66))), (.inl (b : Int)), (.inl (o : Int))] (G, (am_u1 I 69 f), P) = some (none, (G, am_u1 I 69 (k_s1 ρ b o f), P)) := by
  have hcf := CC_far (f := f) hcc
  have hr := hroad_at h1 hb ho
  have hfo := hf o ho
  have hfb := hf b hb
  refine am_doL (L := [some (.inr (.inr (some 66))), some (.inl (b : Int)), some (.inl (o : Int)), none]) (Nat.le_of_ble_eq_true rfl) rfl ?_
  refine (ex_6_0 (ex_4_1 (ex_4_2 (ix_46 (S' := [(.inl (ρ (52 + 6 * b + o)))]) rfl (sh_66 hS) (k_long hS cq65 hcf (b := b) (o := o) (by omega) (by omega)) rfl rfl (ex_7_3 rfl (ex_4_3 ?_))))))
  refine ex_if5 (fun hc8 => ?_) (fun hc8 => ?_)
  · exact ex_56 (by rw [show k_s1 ρ b o f = f from if_neg (by rintro ⟨z1, z2, z3⟩; omega)])
  · refine (ex_6_0 (ix_41r (sh_66 hS) (pt_66_2 hS) (ex_4_2 (ix_30 (j := o) (sh_69 hS) (by omega) (by omega) (by omega) (congrFun u1_e _) (ex_0 ?_)))))
    refine ex_ic0 (fun hc18 => ?_) (fun hc18 => ?_)
    · exact ex_56 (by rw [show k_s1 ρ b o f = f from if_neg (by rintro ⟨z1, z2, z3⟩; omega)])
    · refine (ex_6_0 (ix_41r (sh_66 hS) (pt_66_2 hS) (ex_4_1 (ix_30 (j := b) (sh_69 hS) (by omega) (by omega) (by omega) (congrFun u1_e _) (ex_0 ?_)))))
      refine ex_ic0 (fun hc28 => ?_) (fun hc28 => ?_)
      · refine (ex_6_0 (ix_41r (sh_66 hS) (pt_66_2 hS) (ex_4_1 (ex_6_0 (ix_41r (sh_66 hS) (pt_66_2 hS) (ex_4_2 (ix_30 (j := o) (sh_69 hS) (by omega) (by omega) (by omega) (congrFun u1_e _) (ex_4_3 (ex_add ⟨by omega, by omega⟩ (ix_34 (j := b) (sh_69 hS) (by omega) (by omega) (by omega) (ex_58 ?_)))))))))))
        exact ex_56 (by rw [u2_u1, show k_s1 ρ b o f = am_u1 f b (f o + ρ (52 + 6 * b + o)) from if_pos ⟨by omega, by omega, by omega⟩])
      · refine (ex_6_0 (ix_41r (sh_66 hS) (pt_66_2 hS) (ex_4_2 (ix_30 (j := o) (sh_69 hS) (by omega) (by omega) (by omega) (congrFun u1_e _) (ex_4_3 (ex_add ⟨by omega, by omega⟩ (ex_6_0 (ix_41r (sh_66 hS) (pt_66_2 hS) (ex_4_1 (ix_30 (j := b) (sh_69 hS) (by omega) (by omega) (by omega) (congrFun u1_e _) ?_))))))))))
        refine ex_ic3 (fun hc45 => ?_) (fun hc45 => ?_)
        · exact ex_56 (by rw [show k_s1 ρ b o f = f from if_neg (by rintro ⟨z1, z2, z3⟩; omega)])
        · refine (ex_6_0 (ix_41r (sh_66 hS) (pt_66_2 hS) (ex_4_1 (ex_6_0 (ix_41r (sh_66 hS) (pt_66_2 hS) (ex_4_2 (ix_30 (j := o) (sh_69 hS) (by omega) (by omega) (by omega) (congrFun u1_e _) (ex_4_3 (ex_add ⟨by omega, by omega⟩ (ix_34 (j := b) (sh_69 hS) (by omega) (by omega) (by omega) (ex_58 ?_)))))))))))
          exact ex_56 (by rw [u2_u1, show k_s1 ρ b o f = am_u1 f b (f o + ρ (52 + 6 * b + o)) from if_pos ⟨by omega, by omega, by omega⟩])
theorem k_measure {d : Nat} {G : am_G} {I : Nat → Nat → Int} {P : Nat → Nat → Option Nat} (hS : ST G P) {ρ : Nat → Int} (hcc : CC I 65 ρ) (h1 : hroad ρ) {to_ : Nat} (ht : to_ < 6) : am_call am_B am_M (d + 3) 85 [(.inr (.inr (some 66))), (.inl (to_ : Int))] (G, I, P) = some (none, (G, am_u1 I 69 (k_far ρ to_ (I 69)), P)) := by
  refine am_doL (L := [some (.inr (.inr (some 66))), some (.inl (to_ : Int)), none, none]) (Nat.le_of_ble_eq_true rfl) rfl ?_
  refine (ex_0 (ex_7_2 rfl (ex_58 ?_)))
  refine ex_forH (b := 1) (σ := Nat → Int) (6) (fun b f_0 => k_f0 to_ b f_0) (fun b f_0 => ∀ j, j < b → -1 ≤ f_0 j ∧ f_0 j ≤ 0) (fun b f_0 e_b => [some (.inr (.inr (some 66))), some (.inl (to_ : Int)), some (.inl (b : Int)), none]) (fun b f_0 => (G, (am_u1 I 69 f_0), P)) ?_ ?_ (6) (0) (I 69) (fun k_ => ([some (.inr (.inr (some 66))), some (.inl (to_ : Int)), some (.inl 0), none] : am_L).getD k_ none) (by omega) (fun j hj => absurd hj (by omega)) rfl (congrArg (fun J => (G, J, P)) u1_self.symm) ?_
  · intro b f_0 hib hvb
    intro j hj
    have hv := hvb j
    show -1 ≤ k_f0 to_ b f_0 j ∧ k_f0 to_ b f_0 j ≤ 0
    unfold k_f0 am_u1
    (repeat' split) <;> omega
  · intro b f_0 e_b hib hvb f_0' hsb hkb
    refine (ex_4_2 (ex_0 ?_))
    refine ex_ic3 (fun hc5 => by exfalso; omega) (fun hc5 => ?_)
    refine (ex_6_0 (ix_41r (sh_66 hS) (pt_66_2 hS) (ex_4_2 (ex_4_2 (ex_4_1 ?_)))))
    refine ex_ic1 (fun hc15 => ?_) (fun hc15 => ?_)
    · refine (ex_0 (ex_58 (ix_34 (j := b) (sh_69 hS) (by omega) (by omega) (by omega) (ex_10_2 ⟨by omega, by omega⟩ rfl (ex_28 ?_)))))
      rw [u2_u1]
      rw [hsb.trans (congrArg (am_u1 f_0 b) (if_neg (by omega)))] at hkb
      exact hkb (fun k_ => ([some (.inr (.inr (some 66))), some (.inl (to_ : Int)), some (.inl ((b : Int) + 1)), none] : am_L).getD k_ none)
    · refine (ex_0 (ex_28 (ix_34 (j := b) (sh_69 hS) (by omega) (by omega) (by omega) (ex_10_2 ⟨by omega, by omega⟩ rfl (ex_28 ?_)))))
      rw [u2_u1]
      rw [hsb.trans (congrArg (am_u1 f_0 b) (if_pos (by omega)))] at hkb
      exact hkb (fun k_ => ([some (.inr (.inr (some 66))), some (.inl (to_ : Int)), some (.inl ((b : Int) + 1)), none] : am_L).getD k_ none)
  · intro f_0 e_b hsb hvb
    refine (ex_4_2 (ex_0 ?_))
    refine ex_ic3 (fun hc5 => ?_) (fun hc5 => by exfalso; omega)
    refine (ex_0 (ex_7_2 rfl (ex_58 ?_)))
    refine ex_forH (b := 7) (σ := Nat → Int) (6) (fun r f_r => k_fr ρ f_r) (fun r f_r => fb (36 * r) f_r) (fun r f_r e_r => [some (.inr (.inr (some 66))), some (.inl (to_ : Int)), some (.inl (r : Int)), (e_r 3)]) (fun r f_r => (G, (am_u1 I 69 f_r), P)) ?_ ?_ (5) (1) (f_0) (fun k_ => ([some (.inr (.inr (some 66))), some (.inl (to_ : Int)), some (.inl 1), none] : am_L).getD k_ none) (rfl) (fun j hj => by have := hvb j hj; omega) rfl (rfl) ?_
    · intro r f_r hir hvr
      have := k_fr_b h1 hvr
      rw [show 36 * (r + 1) = 36 * r + 36 by omega]
      exact this
    · intro r f_r e_r hir hvr f_r' hsr hkr
      have hvr : fb (36 * r) f_r := hvr
      refine (ex_4_2 (ex_0 ?_))
      refine ex_ic3 (fun hc35 => by exfalso; omega) (fun hc35 => ?_)
      refine (ex_0 (ex_7_3 rfl (ex_58 ?_)))
      refine ex_forH (b := 9) (σ := Nat → Int) (36) (fun i f_i => k_s1 ρ (i / 6) (i % 6) f_i) (fun i f_i => fb (36 * r + i) f_i) (fun i f_i e_i => [some (.inr (.inr (some 66))), some (.inl (to_ : Int)), some (.inl (r : Int)), some (.inl (i : Int))]) (fun i f_i => (G, (am_u1 I 69 f_i), P)) ?_ ?_ (36) (0) (f_r) (fun k_ => ([some (.inr (.inr (some 66))), some (.inl (to_ : Int)), some (.inl (r : Int)), some (.inl 0)] : am_L).getD k_ none) (by omega) (hvr) rfl (rfl) ?_
      · intro i f_i hii hvi
        exact k_s1_b h1 (by omega) (by omega) hvi
      · intro i f_i e_i hii hvi f_i' hsi hki
        have hvi : fb (36 * r + i) f_i := hvi
        refine (ex_4_3 (ex_0 ?_))
        refine ex_ic3 (fun hc43 => by exfalso; omega) (fun hc43 => ?_)
        refine (ex_6_0 (ex_4_3 (ex_0 (ex_12 (by decide) (am_d4q (by omega) (by decide) (by omega) (by decide)) (ex_4_3 (ex_0 (ex_12 (by decide) (am_d4r (by omega) (by decide) (by omega) (by decide)) (ix_46 (S' := []) rfl (sh_66 hS) (k_shorten hS hcc h1 (f := f_i) (b := i / 6) (o := i % 6) (by omega) (by omega) (fun x hx => by have := hvi x hx; omega)) rfl rfl (ex_10_3 ⟨by omega, by omega⟩ rfl (ex_28 ?_))))))))))
        rw [hsi] at hki
        exact hki (fun k_ => ([some (.inr (.inr (some 66))), some (.inl (to_ : Int)), some (.inl (r : Int)), some (.inl ((i : Int) + 1))] : am_L).getD k_ none)
      · intro f_i e_i hsi hvi
        refine (ex_4_3 (ex_0 ?_))
        refine ex_ic3 (fun hc43 => ?_) (fun hc43 => by exfalso; omega)
        refine (ex_10_2 ⟨by omega, by omega⟩ rfl (ex_28 ?_))
        rw [hsr.trans (show k_fr ρ f_r = f_i from hsi.symm)] at hkr
        exact hkr (fun k_ => ([some (.inr (.inr (some 66))), some (.inl (to_ : Int)), some (.inl ((r : Int) + 1)), some (.inl (36 : Int))] : am_L).getD k_ none)
    · intro f_r e_r hsr hvr
      refine (ex_4_2 (ex_0 ?_))
      refine ex_ic3 (fun hc35 => ?_) (fun hc35 => by exfalso; omega)
      exact ex_56 (by rw [hsr, hsb]; rfl)
theorem k_next {d : Nat} {G : am_G} {I : Nat → Nat → Int} {P : Nat → Nat → Option Nat} (hS : ST G P) {ρ : Nat → Int} (hcc : CC I 65 ρ) (h1 : hroad ρ) {f : Nat → Int} {a nx : Nat} (ha : a < 6) (hf : ∀ x, x < 6 → -1 ≤ f x ∧ f x ≤ 100000000) (hnx : nx < 6) (hyes : (0 < ρ (52 + 6 * a + nx) ∧ ¬ f nx = -1 ∧ f nx + ρ (52 + 6 * a + nx) = f a)) (hno : ∀ j, j < nx → ¬ (0 < ρ (52 + 6 * a + j) ∧ ¬ f j = -1 ∧ f j + ρ (52 + 6 * a + j) = f a)) : am_call am_B am_M (d + 2) 88 [(.inr (.inr (some 66))), (.inl (a : Int))] (G, (am_u1 I 69 f), P) = some (some (.inl (nx : Int)), (G, am_u1 I 69 f, P)) := by
  have hcf := CC_far (f := f) hcc
  have hfa := hf a ha
  refine am_doL (L := [some (.inr (.inr (some 66))), some (.inl (a : Int)), none, none]) (Nat.le_of_ble_eq_true rfl) rfl ?_
  refine (ex_0 (ex_7_2 rfl (ex_58 ?_)))
  refine ex_forH (b := 1) (σ := Unit) (nx) (fun i s_ => s_) (fun i s_ => True) (fun i s_ e_i => [some (.inr (.inr (some 66))), some (.inl (a : Int)), some (.inl (i : Int)), (e_i 3)]) (fun i s_ => (G, (am_u1 I 69 f), P)) ?_ ?_ (nx) (0) (()) (fun k_ => ([some (.inr (.inr (some 66))), some (.inl (a : Int)), some (.inl 0), none] : am_L).getD k_ none) (by omega) (trivial) rfl (rfl) ?_
  · intro i s_ hii hvi
    exact trivial
  · intro i s_ e_i hii hvi s_' hsi hki
    have hfi := hf i (by omega)
    have hri := hroad_at h1 ha (show i < 6 by omega)
    refine (ex_4_2 (ex_0 ?_))
    refine ex_ic3 (fun hc5 => by exfalso; omega) (fun hc5 => ?_)
    refine (ex_6_0 (ex_4_1 (ex_4_2 (ix_46 (S' := [(.inl (ρ (52 + 6 * a + i)))]) rfl (sh_66 hS) (k_long hS cq65 hcf (b := a) (o := i) (by omega) (by omega)) rfl rfl (ex_7_3 rfl (ex_4_3 ?_))))))
    refine ex_if5 (fun hc16 => ?_) (fun hc16 => ?_)
    · refine (ex_10_2 ⟨by omega, by omega⟩ rfl (ex_28 ?_))
      skip
      exact hki (fun k_ => ([some (.inr (.inr (some 66))), some (.inl (a : Int)), some (.inl ((i : Int) + 1)), some (.inl (ρ (52 + 6 * a + i)))] : am_L).getD k_ none)
    · refine (ex_6_0 (ix_41r (sh_66 hS) (pt_66_2 hS) (ex_4_2 (ix_30 (j := i) (sh_69 hS) (by omega) (by omega) (by omega) (congrFun u1_e _) (ex_0 ?_)))))
      refine ex_ic0 (fun hc26 => ?_) (fun hc26 => ?_)
      · refine (ex_10_2 ⟨by omega, by omega⟩ rfl (ex_28 ?_))
        skip
        exact hki (fun k_ => ([some (.inr (.inr (some 66))), some (.inl (a : Int)), some (.inl ((i : Int) + 1)), some (.inl (ρ (52 + 6 * a + i)))] : am_L).getD k_ none)
      · refine (ex_6_0 (ix_41r (sh_66 hS) (pt_66_2 hS) (ex_4_2 (ix_30 (j := i) (sh_69 hS) (by omega) (by omega) (by omega) (congrFun u1_e _) (ex_4_3 (ex_add ⟨by omega, by omega⟩ (ex_6_0 (ix_41r (sh_66 hS) (pt_66_2 hS) (ex_4_1 (ix_30 (j := a) (sh_69 hS) (by omega) (by omega) (by omega) (congrFun u1_e _) ?_))))))))))
        refine ex_ic1 (fun hc43 => ?_) (fun hc43 => by exact absurd ⟨by omega, by omega, by omega⟩ (hno i hii))
        refine (ex_10_2 ⟨by omega, by omega⟩ rfl (ex_28 ?_))
        skip
        exact hki (fun k_ => ([some (.inr (.inr (some 66))), some (.inl (a : Int)), some (.inl ((i : Int) + 1)), some (.inl (ρ (52 + 6 * a + i)))] : am_L).getD k_ none)
  · intro s_ e_i hsi hvi
    have hfn := hf nx hnx
    have hrn := hroad_at h1 ha hnx
    refine (ex_4_2 (ex_0 ?_))
    refine ex_ic3 (fun hc5 => by exfalso; omega) (fun hc5 => ?_)
    refine (ex_6_0 (ex_4_1 (ex_4_2 (ix_46 (S' := [(.inl (ρ (52 + 6 * a + (nx))))]) rfl (sh_66 hS) (k_long hS cq65 hcf (b := a) (o := (nx)) (by omega) (by omega)) rfl rfl (ex_7_3 rfl (ex_4_3 ?_))))))
    refine ex_if5 (fun hc16 => by exfalso; omega) (fun hc16 => ?_)
    refine (ex_6_0 (ix_41r (sh_66 hS) (pt_66_2 hS) (ex_4_2 (ix_30 (j := (nx)) (sh_69 hS) (by omega) (by omega) (by omega) (congrFun u1_e _) (ex_0 ?_)))))
    refine ex_ic0 (fun hc26 => by exfalso; omega) (fun hc26 => ?_)
    refine (ex_6_0 (ix_41r (sh_66 hS) (pt_66_2 hS) (ex_4_2 (ix_30 (j := (nx)) (sh_69 hS) (by omega) (by omega) (by omega) (congrFun u1_e _) (ex_4_3 (ex_add ⟨by omega, by omega⟩ (ex_6_0 (ix_41r (sh_66 hS) (pt_66_2 hS) (ex_4_1 (ix_30 (j := a) (sh_69 hS) (by omega) (by omega) (by omega) (congrFun u1_e _) ?_))))))))))
    refine ex_ic1 (fun hc43 => by exfalso; omega) (fun hc43 => ?_)
    refine (ex_4_2 ?_)
    exact ex_53 rfl
theorem l_step {d : Nat} {G : am_G} {I : Nat → Nat → Int} {P : Nat → Nat → Option Nat} (hS : ST G P) {ρ : Nat → Int} (hcc : CC I 65 ρ) (h1 : hroad ρ) {f l : Nat → Int} {to_ : Nat} {fr iv : Int} (hw : m_lw l) (hc : Clo ρ l) (hs : Sup ρ to_ l) (hfl : ∀ x, x < 6 → f x = enc (l x)) : ∀ (m st a : Nat), st + m = 6 → a < 6 → wrk l a + st ≤ 5 → l a < 100000000 → (st : Int) ≤ iv → am_ex (am_call am_B am_M (d + 2)) (am_B 87) (am_B 87 1) [some (.inr (.inr (some 66))), some (.inl fr), some (.inl (to_ : Int)), some (.inl iv), some (.inl (a : Int)), some (.inl (st : Int))] [] (G, am_u1 I 69 f, P) (fun z => z = (some (.inl (wst ρ l to_ (iv - (st : Int)).toNat a)), (G, am_u1 I 69 f, P)))
  | 0, st, a, e, ha, hr, _, _ => by omega
  | m + 1, st, a, e, ha, hr, hla, hi => by
    have hfa := hfl a ha
    have hwa := hw a ha
    have hfb : ∀ x, x < 6 → -1 ≤ f x ∧ f x ≤ 100000000 := by
      intro x hx
      have e1 := hfl x hx
      have e2 := hw x hx
      unfold enc at e1
      split at e1 <;> omega
    have hfa2 : ¬ f a = -1 := by unfold enc at hfa; rw [if_neg (by omega)] at hfa; omega
    by_cases hat : a = to_
    · subst hat
      rw [wst_to]
      refine (ex_4_5 (ex_0 ?_))
      refine ex_ic3 (fun hc10 => by exfalso; omega) (fun hc10 => ?_)
      refine (ex_4_4 (ex_4_2 ?_))
      refine ex_ic0 (fun hc16 => ?_) (fun hc16 => by exfalso; omega)
      refine (ex_0 ?_)
      exact ex_53 rfl
    · obtain ⟨n1, hn2, n3, n4⟩ := nxt_ok h1 hw hc hs ha hat hla
      have hyes : (0 < ρ (52 + 6 * a + nxt ρ l a) ∧ ¬ f (nxt ρ l a) = -1 ∧ f (nxt ρ l a) + ρ (52 + 6 * a + nxt ρ l a) = f a) := by
        rw [hfl _ hn2, hfa]; exact (nxt_iff h1 hw ha hn2 hla).mp n1
      have hno : ∀ j, j < nxt ρ l a → ¬ (0 < ρ (52 + 6 * a + j) ∧ ¬ f j = -1 ∧ f j + ρ (52 + 6 * a + j) = f a) := by
        intro j hj
        rw [hfl j (by omega), hfa]
        exact fun z => n3 j hj ((nxt_iff h1 hw ha (by omega) hla).mpr z)
      by_cases hie : (st : Int) = iv
      · have e0 : (iv - (st : Int)).toNat = 0 := by omega
        rw [e0, show wst ρ l to_ 0 a = (nxt ρ l a : Int) from if_neg hat]
        refine (ex_4_5 (ex_0 ?_))
        refine ex_ic3 (fun hc10 => by exfalso; omega) (fun hc10 => ?_)
        refine (ex_4_4 (ex_4_2 ?_))
        refine ex_ic0 (fun hc16 => by exfalso; omega) (fun hc16 => ?_)
        refine (ex_6_0 (ix_41r (sh_66 hS) (pt_66_2 hS) (ex_4_4 (ix_30 (j := a) (sh_69 hS) (by omega) (by omega) (by omega) (congrFun u1_e _) (ex_0 ?_)))))
        refine ex_ic1 (fun hc27 => ?_) (fun hc27 => by exfalso; omega)
        refine (ex_6_0 (ex_4_4 (ix_46 (S' := [(.inl ((nxt ρ l a) : Int))]) rfl (sh_66 hS) (k_next hS hcc h1 (f := f) (a := a) (nx := nxt ρ l a) ha hfb hn2 hyes hno) rfl rfl (ex_7_4 rfl (ex_4_5 (ex_4_3 ?_))))))
        refine ex_ic1 (fun hc43 => by exfalso; omega) (fun hc43 => ?_)
        refine (ex_4_4 ?_)
        exact ex_53 rfl
      · have e0 : (iv - (st : Int)).toNat = (iv - ((st + 1 : Nat) : Int)).toNat + 1 := by omega
        have hk := wrk_lt hn2 n4
        rw [e0, show wst ρ l to_ ((iv - ((st + 1 : Nat) : Int)).toNat + 1) a = wst ρ l to_ ((iv - ((st + 1 : Nat) : Int)).toNat) (nxt ρ l a) from if_neg hat]
        refine (ex_4_5 (ex_0 ?_))
        refine ex_ic3 (fun hc10 => by exfalso; omega) (fun hc10 => ?_)
        refine (ex_4_4 (ex_4_2 ?_))
        refine ex_ic0 (fun hc16 => by exfalso; omega) (fun hc16 => ?_)
        refine (ex_6_0 (ix_41r (sh_66 hS) (pt_66_2 hS) (ex_4_4 (ix_30 (j := a) (sh_69 hS) (by omega) (by omega) (by omega) (congrFun u1_e _) (ex_0 ?_)))))
        refine ex_ic1 (fun hc27 => ?_) (fun hc27 => by exfalso; omega)
        refine (ex_6_0 (ex_4_4 (ix_46 (S' := [(.inl ((nxt ρ l a) : Int))]) rfl (sh_66 hS) (k_next hS hcc h1 (f := f) (a := a) (nx := nxt ρ l a) ha hfb hn2 hyes hno) rfl rfl (ex_7_4 rfl (ex_4_5 (ex_4_3 ?_))))))
        refine ex_ic1 (fun hc43 => ?_) (fun hc43 => by exfalso; omega)
        refine (ex_10_5 ⟨by omega, by omega⟩ rfl (ex_28 ?_))
        exact l_step hS hcc h1 hw hc hs hfl m (st + 1) (nxt ρ l a) (by omega) hn2 (by omega) (by omega) (by omega)
theorem k_step {d : Nat} {G : am_G} {I : Nat → Nat → Int} {P : Nat → Nat → Option Nat} (hS : ST G P) {ρ : Nat → Int} (hcc : CC I 65 ρ) (h1 : hroad ρ) {to_ fr i : Nat} {f : Nat → Int} (hf : ∀ x, x < 6 → f x = enc (lc ρ to_ x)) (ht : to_ < 6) (hfr : fr < 6) (hl : ¬ lc ρ to_ fr = 100000000) : am_call am_B am_M (d + 3) 87 [(.inr (.inr (some 66))), (.inl (fr : Int)), (.inl (to_ : Int)), (.inl (i : Int))] (G, (am_u1 I 69 f), P) = some (some (.inl (wst ρ (lc ρ to_) to_ i fr)), (G, am_u1 I 69 f, P)) := by
  have hw := lc_w (to_ := to_) h1 fr hfr
  have h5 := wrk_5 (l := lc ρ to_) hfr
  refine am_doL (L := [some (.inr (.inr (some 66))), some (.inl (fr : Int)), some (.inl (to_ : Int)), some (.inl (i : Int)), none, none]) (Nat.le_of_ble_eq_true rfl) rfl ?_
  refine (ex_4_1 (ex_7_4 rfl (ex_0 (ex_7_5 rfl (ex_58 ?_)))))
  have e := l_step (d := d) (G := G) (P := P) (iv := (i : Int)) (fr := (fr : Int)) hS hcc h1 (lc_w h1) (lc_clo h1 ht) (lc_sup h1) hf 6 0 fr rfl hfr (by omega) (by omega) (by omega)
  rw [show ((i : Int) - ((0 : Nat) : Int)).toNat = i by omega] at e
  exact e
theorem k_step_n {d : Nat} {G : am_G} {I : Nat → Nat → Int} {P : Nat → Nat → Option Nat} (hS : ST G P) {ρ : Nat → Int} (hcc : CC I 65 ρ) (h1 : hroad ρ) {to_ fr i : Nat} {f : Nat → Int} (hf : ∀ x, x < 6 → f x = enc (lc ρ to_ x)) (ht : to_ < 6) (hfr : fr < 6) (hl : lc ρ to_ fr = 100000000) : am_call am_B am_M (d + 3) 87 [(.inr (.inr (some 66))), (.inl (fr : Int)), (.inl (to_ : Int)), (.inl (i : Int))] (G, (am_u1 I 69 f), P) = some (some (.inl (-1)), (G, am_u1 I 69 f, P)) := by
  have hfe : f fr = -1 := (hf fr hfr).trans (if_pos hl)
  refine am_doL (L := [some (.inr (.inr (some 66))), some (.inl (fr : Int)), some (.inl (to_ : Int)), some (.inl (i : Int)), none, none]) (Nat.le_of_ble_eq_true rfl) rfl ?_
  refine (ex_4_1 (ex_7_4 rfl (ex_0 (ex_7_5 rfl (ex_58 (ex_4_5 (ex_0 (ex_ic3 (fun hc => by exfalso; revert hc; decide) (fun _ => ?_)))))))))
  refine (ex_4_4 (ex_4_2 ?_))
  refine ex_ic0 (fun hc16 => ?_) (fun hc16 => ?_)
  · refine (ex_0 ?_)
    exact ex_53 rfl
  · refine (ex_6_0 (ix_41r (sh_66 hS) (pt_66_2 hS) (ex_4_4 (ix_30 (j := fr) (sh_69 hS) (by omega) (by omega) (by omega) (congrFun u1_e _) (ex_0 ?_)))))
    refine ex_ic1 (fun hc27 => by exfalso; omega) (fun hc27 => ?_)
    refine (ex_0 ?_)
    exact ex_53 rfl
theorem k_way_b {d : Nat} {G : am_G} {I : Nat → Nat → Int} {P : Nat → Nat → Option Nat} {fr to_ i : Int} (hb : ¬ ((0 ≤ fr ∧ fr < 6) ∧ (0 ≤ to_ ∧ to_ < 6) ∧ -1 ≤ i)) : am_call am_B am_M (d + 4) 138 [(.inr (.inr (some 64))), (.inl fr), (.inl to_), (.inl i)] (G, I, P) = some (some (.inl (-1)), (G, I, P)) := by
  refine am_doL (L := [some (.inr (.inr (some 64))), some (.inl fr), some (.inl to_), some (.inl i)]) (Nat.le_of_ble_eq_true rfl) rfl ?_
  refine (ex_4_1 ?_)
  by_cases hb1 : ((0 : Int) ≤ fr ∧ (fr : Int) < 6)
  · refine (ix_45 (S' := [(.inl 1)]) rfl (k_isBox_t hb1) rfl rfl (ex_if0 (fun hc => by exfalso; revert hc; decide) (fun _ => ?_)))
    refine (ex_4_2 ?_)
    by_cases hb8 : ((0 : Int) ≤ to_ ∧ (to_ : Int) < 6)
    · refine (ix_45 (S' := [(.inl 1)]) rfl (k_isBox_t hb8) rfl rfl (ex_if0 (fun hc => by exfalso; revert hc; decide) (fun _ => ?_)))
      refine (ex_4_3 (ex_0 ?_))
      refine ex_ic3 (fun hc16 => by exfalso; omega) (fun hc16 => ?_)
      refine (ex_0 ?_)
      exact ex_53 rfl
    · refine (ix_45 (S' := [(.inl 0)]) rfl (k_isBox_f hb8) rfl rfl (ex_if0 (fun _ => ?_) (fun hc => by exfalso; revert hc; decide)))
      refine (ex_0 ?_)
      exact ex_53 rfl
  · refine (ix_45 (S' := [(.inl 0)]) rfl (k_isBox_f hb1) rfl rfl (ex_if0 (fun _ => ?_) (fun hc => by exfalso; revert hc; decide)))
    refine (ex_0 ?_)
    exact ex_53 rfl
theorem k_way_n {d : Nat} {G : am_G} {I : Nat → Nat → Int} {P : Nat → Nat → Option Nat} (hS : ST G P) {ρ : Nat → Int} (hcc : CC I 65 ρ) (h1 : hroad ρ) {fr to_ : Nat} (hfr : fr < 6) (ht : to_ < 6) : am_call am_B am_M (d + 4) 138 [(.inr (.inr (some 64))), (.inl (fr : Int)), (.inl (to_ : Int)), (.inl (-1))] (G, I, P) = some (some (.inl (m_way ρ fr to_ (-1))), (G, am_u1 I 69 (k_far ρ to_ (I 69)), P)) := by
  have hkf := k_far_lc (f := I 69) h1 ht
  refine am_doL (L := [some (.inr (.inr (some 64))), some (.inl (fr : Int)), some (.inl (to_ : Int)), some (.inl (-1))]) (Nat.le_of_ble_eq_true rfl) rfl ?_
  refine (ex_4_1 ?_)
  have hb1 : ((0 : Int) ≤ (fr : Int) ∧ ((fr : Int) : Int) < 6) := by omega
  refine (ix_45 (S' := [(.inl 1)]) rfl (k_isBox_t hb1) rfl rfl (ex_if0 (fun hc => by exfalso; revert hc; decide) (fun _ => ?_)))
  refine (ex_4_2 ?_)
  have hb8 : ((0 : Int) ≤ (to_ : Int) ∧ ((to_ : Int) : Int) < 6) := by omega
  refine (ix_45 (S' := [(.inl 1)]) rfl (k_isBox_t hb8) rfl rfl (ex_if0 (fun hc => by exfalso; revert hc; decide) (fun _ => ?_)))
  refine (ex_4_3 (ex_0 (ex_ic3 (fun _ => ?_) (fun hc => by exfalso; revert hc; decide))))
  refine (ex_6_0 (ix_41r (sh_64 hS) (pt_64_0 hS) (ix_41r (sh_65 hS) (pt_65_0 hS) (ex_4_2 (ix_46 (S' := []) rfl (sh_66 hS) (k_measure hS hcc h1 (to_ := to_) ht) rfl rfl (ex_4_3 (ex_0 (ex_ic1 (fun hc => by exfalso; revert hc; decide) (fun _ => ?_)))))))))
  refine (ex_6_0 (ix_41r (sh_64 hS) (pt_64_0 hS) (ix_41r (sh_65 hS) (pt_65_0 hS) (ix_41r (sh_66 hS) (pt_66_2 hS) (ex_4_1 (ix_30 (j := fr) (sh_69 hS) (by omega) (by omega) (by omega) (congrFun u1_e _) (ex_28 ?_)))))))
  exact ex_53 (by rw [hkf fr hfr]; unfold m_way enc; split <;> rfl)
theorem k_way_y {d : Nat} {G : am_G} {I : Nat → Nat → Int} {P : Nat → Nat → Option Nat} (hS : ST G P) {ρ : Nat → Int} (hcc : CC I 65 ρ) (h1 : hroad ρ) {fr to_ i : Nat} (hfr : fr < 6) (ht : to_ < 6) (hl : ¬ lc ρ to_ fr = 100000000) : am_call am_B am_M (d + 4) 138 [(.inr (.inr (some 64))), (.inl (fr : Int)), (.inl (to_ : Int)), (.inl (i : Int))] (G, I, P) = some (some (.inl (m_way ρ fr to_ (i : Int))), (G, am_u1 I 69 (k_far ρ to_ (I 69)), P)) := by
  have hkf := k_far_lc (f := I 69) h1 ht
  refine am_doL (L := [some (.inr (.inr (some 64))), some (.inl (fr : Int)), some (.inl (to_ : Int)), some (.inl (i : Int))]) (Nat.le_of_ble_eq_true rfl) rfl ?_
  refine (ex_4_1 ?_)
  have hb1 : ((0 : Int) ≤ (fr : Int) ∧ ((fr : Int) : Int) < 6) := by omega
  refine (ix_45 (S' := [(.inl 1)]) rfl (k_isBox_t hb1) rfl rfl (ex_if0 (fun hc => by exfalso; revert hc; decide) (fun _ => ?_)))
  refine (ex_4_2 ?_)
  have hb8 : ((0 : Int) ≤ (to_ : Int) ∧ ((to_ : Int) : Int) < 6) := by omega
  refine (ix_45 (S' := [(.inl 1)]) rfl (k_isBox_t hb8) rfl rfl (ex_if0 (fun hc => by exfalso; revert hc; decide) (fun _ => ?_)))
  refine (ex_4_3 (ex_0 ?_))
  refine ex_ic3 (fun hc16 => ?_) (fun hc16 => by exfalso; omega)
  refine (ex_6_0 (ix_41r (sh_64 hS) (pt_64_0 hS) (ix_41r (sh_65 hS) (pt_65_0 hS) (ex_4_2 (ix_46 (S' := []) rfl (sh_66 hS) (k_measure hS hcc h1 (to_ := to_) ht) rfl rfl (ex_4_3 (ex_0 ?_)))))))
  refine ex_ic1 (fun hc34 => ?_) (fun hc34 => by exfalso; omega)
  refine (ex_6_0 (ix_41r (sh_64 hS) (pt_64_0 hS) (ix_41r (sh_65 hS) (pt_65_0 hS) (ex_4_1 (ex_4_2 (ex_4_3 (ix_46 (S' := [(.inl (wst ρ (lc ρ to_) to_ i fr))]) rfl (sh_66 hS) (k_step hS hcc h1 hkf ht hfr hl) rfl rfl (ex_58 ?_))))))))
  exact ex_53 (by unfold m_way; rw [if_neg hl, if_neg (by omega), Int.toNat_natCast])
theorem k_way_z {d : Nat} {G : am_G} {I : Nat → Nat → Int} {P : Nat → Nat → Option Nat} (hS : ST G P) {ρ : Nat → Int} (hcc : CC I 65 ρ) (h1 : hroad ρ) {fr to_ i : Nat} (hfr : fr < 6) (ht : to_ < 6) (hl : lc ρ to_ fr = 100000000) : am_call am_B am_M (d + 4) 138 [(.inr (.inr (some 64))), (.inl (fr : Int)), (.inl (to_ : Int)), (.inl (i : Int))] (G, I, P) = some (some (.inl (m_way ρ fr to_ (i : Int))), (G, am_u1 I 69 (k_far ρ to_ (I 69)), P)) := by
  have hkf := k_far_lc (f := I 69) h1 ht
  refine am_doL (L := [some (.inr (.inr (some 64))), some (.inl (fr : Int)), some (.inl (to_ : Int)), some (.inl (i : Int))]) (Nat.le_of_ble_eq_true rfl) rfl ?_
  refine (ex_4_1 ?_)
  have hb1 : ((0 : Int) ≤ (fr : Int) ∧ ((fr : Int) : Int) < 6) := by omega
  refine (ix_45 (S' := [(.inl 1)]) rfl (k_isBox_t hb1) rfl rfl (ex_if0 (fun hc => by exfalso; revert hc; decide) (fun _ => ?_)))
  refine (ex_4_2 ?_)
  have hb8 : ((0 : Int) ≤ (to_ : Int) ∧ ((to_ : Int) : Int) < 6) := by omega
  refine (ix_45 (S' := [(.inl 1)]) rfl (k_isBox_t hb8) rfl rfl (ex_if0 (fun hc => by exfalso; revert hc; decide) (fun _ => ?_)))
  refine (ex_4_3 (ex_0 ?_))
  refine ex_ic3 (fun hc16 => ?_) (fun hc16 => by exfalso; omega)
  refine (ex_6_0 (ix_41r (sh_64 hS) (pt_64_0 hS) (ix_41r (sh_65 hS) (pt_65_0 hS) (ex_4_2 (ix_46 (S' := []) rfl (sh_66 hS) (k_measure hS hcc h1 (to_ := to_) ht) rfl rfl (ex_4_3 (ex_0 ?_)))))))
  refine ex_ic1 (fun hc34 => ?_) (fun hc34 => by exfalso; omega)
  refine (ex_6_0 (ix_41r (sh_64 hS) (pt_64_0 hS) (ix_41r (sh_65 hS) (pt_65_0 hS) (ex_4_1 (ex_4_2 (ex_4_3 (ix_46 (S' := [(.inl (-1))]) rfl (sh_66 hS) (k_step_n hS hcc h1 hkf ht hfr hl) rfl rfl (ex_58 ?_))))))))
  exact ex_53 (by unfold m_way; rw [if_pos hl])
