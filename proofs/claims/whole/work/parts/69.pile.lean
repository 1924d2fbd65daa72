/-! ===== the reference reads: its pile, its small methods ===== -/
def bd (o : Int) : Int := if 31 ≤ o then 0 else if o = 30 then 1 else if o = 29 then 2 else if o = 28 then 3 else if 25 ≤ o then 4 else if 22 ≤ o then 6 else 5
def LWs : List (List Int) := [[99, 108, 111, 117, 100], [107, 105, 110, 100], [114, 97, 103, 101], [98, 111, 120], [102, 111, 108, 107], [107, 110, 111, 119, 115], [119, 101, 116], [110, 105, 103, 104, 116], [109, 111, 111, 100]]
def OWs : List (List Int) := [[110, 105, 103, 104, 116], [100, 111, 110, 101], [108, 97, 116, 101, 115, 116], [108, 101, 97, 114, 110, 116], [115, 111, 97, 107, 101, 100], [97, 116], [98, 117, 115, 121]]
def HWs : List (List Int) := [[116, 101, 108, 108, 115], [115, 111, 97, 107, 115], [103, 111, 101, 115], [98, 97, 114, 115]]
def AWs : List (List Int) := [[114, 105, 110, 103], [101, 110, 103, 97, 103, 101], [115, 109, 97, 115, 104], [112, 97, 115, 115]]
/-- the reference's tables of words -/
def KM (I : Nat → Nat → Int) : Prop := (∀ k, k < 9 → I 223 k = hsh (LWs.getD k [])) ∧ (∀ k, k < 7 → I 224 k = hsh (OWs.getD k [])) ∧ (∀ k, k < 4 → I 225 k = hsh (HWs.getD k [])) ∧ (∀ k, k < 4 → I 237 k = hsh (AWs.getD k []))
theorem KM_fr {I J : Nat → Nat → Int} (h : KM I) (hf : ∀ q k, (q = 223 ∨ q = 224 ∨ q = 225 ∨ q = 237) → J q k = I q k) : KM J := ⟨fun k hk => (hf _ _ (by omega)).trans (h.1 k hk), fun k hk => (hf _ _ (by omega)).trans (h.2.1 k hk), fun k hk => (hf _ _ (by omega)).trans (h.2.2.1 k hk), fun k hk => (hf _ _ (by omega)).trans (h.2.2.2 k hk)⟩
/-- code of c, p piled, as they may stand -/
def PI (J : Nat → Nat → Int) (c p : Nat) : Prop := J 208 23 = (c : Int) ∧ J 208 29 = (p : Int) ∧ c + p ≤ 400 ∧ ∀ j, j < p → 20 ≤ J 221 j ∧ J 221 j ≤ 32 ∧ ((J 221 j = 29 ∨ J 221 j = 30) → ∃ x : Nat, x < 400 ∧ J 222 j = (x : Int))
def inrF (F : Nat → Int) (p : Nat) : Int := am_it (fun k its => if 31 ≤ F k then F k else its) p 0 (-1)
theorem inrF_succ {F : Nat → Int} {p : Nat} : inrF F (p + 1) = if 31 ≤ F p then F p else inrF F p := by
  unfold inrF
  rw [am_it_succ (fun k its => if 31 ≤ F k then F k else its) p 0 (-1), Nat.zero_add]
theorem inrF_ext {F : Nat → Int} {p : Nat} : ∀ m, (∀ j, p ≤ j → j < p + m → ¬ 31 ≤ F j) → inrF F (p + m) = inrF F p
  | 0, _ => rfl
  | m + 1, h => by
    rw [show p + (m + 1) = (p + m) + 1 by omega, inrF_succ, if_neg (h (p + m) (by omega) (by omega))]
    exact inrF_ext m (fun j a b => h j a (by omega))
theorem inrF_congr {F F' : Nat → Int} : ∀ p, (∀ j, j < p → F' j = F j) → inrF F' p = inrF F p
  | 0, _ => rfl
  | p + 1, h => by rw [inrF_succ, inrF_succ, h p (by omega), inrF_congr p (fun j hj => h j (by omega))]
/-- compared: below sums' signs stands a comparison -/
def isc (F : Nat → Int) : Nat → Bool
  | 0 => false
  | k + 1 => if 20 ≤ F k ∧ F k ≤ 24 then isc F k else decide (25 ≤ F k ∧ F k ≤ 27)
theorem isc_ext {F : Nat → Int} {p : Nat} : ∀ m, (∀ j, p ≤ j → j < p + m → 20 ≤ F j ∧ F j ≤ 24) → isc F (p + m) = isc F p
  | 0, _ => rfl
  | m + 1, h => by
    show (if 20 ≤ F (p + m) ∧ F (p + m) ≤ 24 then isc F (p + m) else _) = _
    rw [if_pos (h (p + m) (by omega) (by omega))]
    exact isc_ext m (fun j a b => h j a (by omega))
theorem c_emit {d : Nat} {G : am_G} {I : Nat → Nat → Int} {P : Nat → Nat → Option Nat} (hS : ST G P) {c : Nat} {o a : Int} (h23 : I 208 23 = (c : Int)) (hc : c < 400) : am_call am_B am_M (d + 1) 206 [(.inr (.inr (some 208))), (.inl o), (.inl a)] (G, I, P) = some (none, (G, am_u2 (am_u2 (am_u2 I 219 c o) 220 c a) 208 23 ((c : Int) + 1), P)) := by
  refine am_doL (L := [some (.inr (.inr (some 208))), some (.inl o), some (.inl a)]) (Nat.le_of_ble_eq_true rfl) rfl ?_
  refine (ex_6_0 (ix_41r (sh_208 hS) (pt_208_24 hS) (ex_6_0 (ix_41i (v := (c : Int)) (sh_208 hS) h23 (ex_4_1 (ix_34 (j := c) (sh_219 hS) (by omega) (by omega) (by omega) (ex_6_0 (ix_41r (sh_208 hS) (pt_208_25 hS) (ex_6_0 (ix_41i (v := (c : Int)) (sh_208 hS) ((u2_q (by decide)).trans h23) (ex_4_2 (ix_34 (j := c) (sh_220 hS) (by omega) (by omega) (by omega) (ex_6_0 (ex_22 rfl (ix_41i (v := (c : Int)) (sh_208 hS) ((u2_q (by decide)).trans ((u2_q (by decide)).trans h23)) (ex_0 (ex_add ⟨by omega, by omega⟩ (ix_42i (sh_208 hS) ?_))))))))))))))))))
  exact ex_56 rfl
theorem c_push {d : Nat} {G : am_G} {I : Nat → Nat → Int} {P : Nat → Nat → Option Nat} (hS : ST G P) {p : Nat} {o a : Int} (h29 : I 208 29 = (p : Int)) (hp : p < 400) : am_call am_B am_M (d + 1) 207 [(.inr (.inr (some 208))), (.inl o), (.inl a)] (G, I, P) = some (none, (G, am_u2 (am_u2 (am_u2 I 221 p o) 222 p a) 208 29 ((p : Int) + 1), P)) := by
  refine am_doL (L := [some (.inr (.inr (some 208))), some (.inl o), some (.inl a)]) (Nat.le_of_ble_eq_true rfl) rfl ?_
  refine (ex_6_0 (ix_41r (sh_208 hS) (pt_208_27 hS) (ex_6_0 (ix_41i (v := (p : Int)) (sh_208 hS) h29 (ex_4_1 (ix_34 (j := p) (sh_221 hS) (by omega) (by omega) (by omega) (ex_6_0 (ix_41r (sh_208 hS) (pt_208_28 hS) (ex_6_0 (ix_41i (v := (p : Int)) (sh_208 hS) ((u2_q (by decide)).trans h29) (ex_4_2 (ix_34 (j := p) (sh_222 hS) (by omega) (by omega) (by omega) (ex_6_0 (ex_22 rfl (ix_41i (v := (p : Int)) (sh_208 hS) ((u2_q (by decide)).trans ((u2_q (by decide)).trans h29)) (ex_0 (ex_add ⟨by omega, by omega⟩ (ix_42i (sh_208 hS) ?_))))))))))))))))))
  exact ex_56 rfl
theorem c_binds {d : Nat} {G : am_G} {I : Nat → Nat → Int} {P : Nat → Nat → Option Nat} {o : Int} : am_call am_B am_M (d + 1) 208 [(.inl o)] (G, I, P) = some (some (.inl (bd o)), (G, I, P)) := by
  refine am_doL (L := [some (.inl o)]) (Nat.le_of_ble_eq_true rfl) rfl ?_
  refine (ex_4_0 (ex_0 ?_))
  refine ex_ic2 (fun hc3 => ?_) (fun hc3 => ?_)
  · refine (ex_4_0 (ex_0 ?_))
    refine ex_ic1 (fun hc13 => ?_) (fun hc13 => ?_)
    · refine (ex_4_0 (ex_0 ?_))
      refine ex_ic1 (fun hc23 => ?_) (fun hc23 => ?_)
      · refine (ex_4_0 (ex_0 ?_))
        refine ex_ic1 (fun hc33 => ?_) (fun hc33 => ?_)
        · refine (ex_4_0 (ex_0 ?_))
          refine ex_ic2 (fun hc43 => ?_) (fun hc43 => ?_)
          · refine (ex_4_0 (ex_0 ?_))
            refine ex_ic2 (fun hc53 => ?_) (fun hc53 => ?_)
            · refine (ex_0 (ex_58 ?_))
              exact ex_53 (by unfold bd; rw [if_neg (by omega), if_neg (by omega), if_neg (by omega), if_neg (by omega), if_neg (by omega), if_neg (by omega)])
            · refine (ex_0 (ex_28 ?_))
              exact ex_53 (by unfold bd; rw [if_neg (by omega), if_neg (by omega), if_neg (by omega), if_neg (by omega), if_neg (by omega), if_pos (by omega)])
          · refine (ex_0 (ex_28 ?_))
            exact ex_53 (by unfold bd; rw [if_neg (by omega), if_neg (by omega), if_neg (by omega), if_neg (by omega), if_pos (by omega)])
        · refine (ex_0 (ex_28 ?_))
          exact ex_53 (by unfold bd; rw [if_neg (by omega), if_neg (by omega), if_neg (by omega), if_pos (by omega)])
      · refine (ex_0 (ex_28 ?_))
        exact ex_53 (by unfold bd; rw [if_neg (by omega), if_neg (by omega), if_pos (by omega)])
    · refine (ex_0 (ex_28 ?_))
      exact ex_53 (by unfold bd; rw [if_neg (by omega), if_pos (by omega)])
  · refine (ex_0 (ex_28 ?_))
    exact ex_53 (by unfold bd; rw [if_pos (by omega)])
theorem c_inner {d : Nat} {G : am_G} {I : Nat → Nat → Int} {P : Nat → Nat → Option Nat} (hS : ST G P) {p : Nat} (h29 : I 208 29 = (p : Int)) (hp : p ≤ 400) : am_call am_B am_M (d + 1) 210 [(.inr (.inr (some 208)))] (G, I, P) = some (some (.inl (inrF (I 221) p)), (G, I, P)) := by
  refine am_doL (L := [some (.inr (.inr (some 208))), none, none]) (Nat.le_of_ble_eq_true rfl) rfl ?_
  refine (ex_0 (ex_7_1 rfl (ex_0 (ex_7_2 rfl (ex_58 ?_)))))
  refine ex_forH (b := 1) (σ := Int) (p) (fun k its => if 31 ≤ I 221 k then I 221 k else its) (fun k its => True) (fun k its e_k => [some (.inr (.inr (some 208))), some (.inl its), some (.inl (k : Int))]) (fun k its => (G, I, P)) ?_ ?_ (p) (0) ((-1)) (fun k_ => ([some (.inr (.inr (some 208))), some (.inl (-1)), some (.inl 0)] : am_L).getD k_ none) (by omega) (trivial) rfl (rfl) ?_
  · intro k its hik hvk
    exact trivial
  · intro k its e_k hik hvk its' hsk hkk
    refine (ex_4_2 (ex_6_0 (ix_41i (v := (p : Int)) (sh_208 hS) h29 ?_)))
    refine ex_ic3 (fun hc9 => by exfalso; omega) (fun hc9 => ?_)
    refine (ex_6_0 (ix_41r (sh_208 hS) (pt_208_27 hS) (ex_4_2 (ix_30 (j := k) (v := (I 221 k)) (sh_221 hS) (by omega) (by omega) (by omega) rfl (ex_0 ?_)))))
    refine ex_ic2 (fun hc20 => ?_) (fun hc20 => ?_)
    · refine (ex_4_1 (ex_58 (ex_7_1 rfl (ex_10_2 ⟨by omega, by omega⟩ rfl (ex_28 ?_)))))
      have e : its' = its := hsk.trans (if_neg (by omega))
      rw [e] at hkk
      exact hkk (fun k_ => ([some (.inr (.inr (some 208))), some (.inl its), some (.inl ((k : Int) + 1))] : am_L).getD k_ none)
    · refine (ex_6_0 (ix_41r (sh_208 hS) (pt_208_27 hS) (ex_4_2 (ix_30 (j := k) (v := (I 221 k)) (sh_221 hS) (by omega) (by omega) (by omega) rfl (ex_28 (ex_7_1 rfl (ex_10_2 ⟨by omega, by omega⟩ rfl (ex_28 ?_))))))))
      have e : its' = (I 221 k) := hsk.trans (if_pos (by omega))
      rw [e] at hkk
      exact hkk (fun k_ => ([some (.inr (.inr (some 208))), some (.inl (I 221 k)), some (.inl ((k : Int) + 1))] : am_L).getD k_ none)
  · intro its e_k hsk hvk
    refine (ex_4_2 (ex_6_0 (ix_41i (v := (p : Int)) (sh_208 hS) h29 ?_)))
    refine ex_ic3 (fun hc9 => ?_) (fun hc9 => by exfalso; omega)
    refine (ex_4_1 ?_)
    exact ex_53 (by rw [hsk]; rfl)
theorem l_isc {d : Nat} {G : am_G} {I : Nat → Nat → Int} {P : Nat → Nat → Option Nat} (hS : ST G P) : ∀ (p : Nat), p ≤ 400 → am_ex (am_call am_B am_M (d + 1)) (am_B 211) (am_B 211 1) [some (.inr (.inr (some 208))), some (.inl ((p : Int) - 1))] [] (G, I, P) (fun z => z = (some (.inl (if isc (I 221) p = true then 1 else 0)), (G, I, P)))
  | 0, hp => by
    refine (ex_4_1 ?_)
    refine ex_if2 (fun hc8 => ?_) (fun hc8 => by exfalso; omega)
    refine (ex_4_1 ?_)
    refine ex_if2 (fun hc37 => ?_) (fun hc37 => by exfalso; omega)
    refine (ex_0 (ex_58 ?_))
    exact ex_57 (by decide) rfl
  | p + 1, hp => by
    rw [show ((p + 1 : Nat) : Int) - 1 = (p : Int) by omega]
    by_cases h1 : 20 ≤ I 221 p ∧ I 221 p ≤ 24
    · rw [show isc (I 221) (p + 1) = isc (I 221) p from if_pos h1]
      refine (ex_4_1 ?_)
      refine ex_if2 (fun hc8 => by exfalso; omega) (fun hc8 => ?_)
      refine (ex_6_0 (ix_41r (sh_208 hS) (pt_208_27 hS) (ex_4_1 (ix_30 (j := p) (v := (I 221 p)) (sh_221 hS) (by omega) (by omega) (by omega) rfl (ex_19 (ex_1 (ex_1 ?_)))))))
      have hb24 : ((20 : Int) ≤ (I 221 p) ∧ ((I 221 p) : Int) ≤ 24) := by omega
      refine (ix_45 (S' := [(.inl 1)]) rfl (c_in_t hb24) rfl rfl (ex_if0 (fun hc => by exfalso; revert hc; decide) (fun _ => ?_)))
      refine (ex_10_1 ⟨by omega, by omega⟩ rfl (ex_28 ?_))
      exact l_isc hS p (by omega)
    · have hi : isc (I 221) (p + 1) = decide (25 ≤ I 221 p ∧ I 221 p ≤ 27) := if_neg h1
      by_cases h2 : 25 ≤ I 221 p ∧ I 221 p ≤ 27
      · refine (ex_4_1 ?_)
        refine ex_if2 (fun hc8 => by exfalso; omega) (fun hc8 => ?_)
        refine (ex_6_0 (ix_41r (sh_208 hS) (pt_208_27 hS) (ex_4_1 (ix_30 (j := p) (v := (I 221 p)) (sh_221 hS) (by omega) (by omega) (by omega) rfl (ex_19 (ex_1 (ex_1 ?_)))))))
        have hb24 : ¬ (((20 : Int) ≤ (I 221 p) ∧ ((I 221 p) : Int) ≤ 24)) := by omega
        refine (ix_45 (S' := [(.inl 0)]) rfl (c_in_f hb24) rfl rfl (ex_if0 (fun _ => ?_) (fun hc => by exfalso; revert hc; decide)))
        refine (ex_4_1 ?_)
        refine ex_if2 (fun hc37 => by exfalso; omega) (fun hc37 => ?_)
        refine (ex_6_0 (ix_41r (sh_208 hS) (pt_208_27 hS) (ex_4_1 (ix_30 (j := p) (v := (I 221 p)) (sh_221 hS) (by omega) (by omega) (by omega) rfl (ex_19 (ex_1 (ex_1 ?_)))))))
        have hb53 : ((25 : Int) ≤ (I 221 p) ∧ ((I 221 p) : Int) ≤ 27) := by omega
        refine (ix_45 (S' := [(.inl 1)]) rfl (c_in_t hb53) rfl rfl (ex_if0 (fun hc => by exfalso; revert hc; decide) (fun _ => ?_)))
        refine (ex_0 (ex_28 ?_))
        exact ex_57 (by decide) (by rw [hi, decide_eq_true h2]; rfl)
      · refine (ex_4_1 ?_)
        refine ex_if2 (fun hc8 => by exfalso; omega) (fun hc8 => ?_)
        refine (ex_6_0 (ix_41r (sh_208 hS) (pt_208_27 hS) (ex_4_1 (ix_30 (j := p) (v := (I 221 p)) (sh_221 hS) (by omega) (by omega) (by omega) rfl (ex_19 (ex_1 (ex_1 ?_)))))))
        have hb24 : ¬ (((20 : Int) ≤ (I 221 p) ∧ ((I 221 p) : Int) ≤ 24)) := by omega
        refine (ix_45 (S' := [(.inl 0)]) rfl (c_in_f hb24) rfl rfl (ex_if0 (fun _ => ?_) (fun hc => by exfalso; revert hc; decide)))
        refine (ex_4_1 ?_)
        refine ex_if2 (fun hc37 => by exfalso; omega) (fun hc37 => ?_)
        refine (ex_6_0 (ix_41r (sh_208 hS) (pt_208_27 hS) (ex_4_1 (ix_30 (j := p) (v := (I 221 p)) (sh_221 hS) (by omega) (by omega) (by omega) rfl (ex_19 (ex_1 (ex_1 ?_)))))))
        have hb53 : ¬ (((25 : Int) ≤ (I 221 p) ∧ ((I 221 p) : Int) ≤ 27)) := by omega
        refine (ix_45 (S' := [(.inl 0)]) rfl (c_in_f hb53) rfl rfl (ex_if0 (fun _ => ?_) (fun hc => by exfalso; revert hc; decide)))
        refine (ex_0 (ex_58 ?_))
        exact ex_57 (by decide) (by rw [hi, decide_eq_false h2]; rfl)
theorem c_isc {d : Nat} {G : am_G} {I : Nat → Nat → Int} {P : Nat → Nat → Option Nat} (hS : ST G P) {p : Nat} (h29 : I 208 29 = (p : Int)) (hp : p ≤ 400) : am_call am_B am_M (d + 2) 211 [.inr (.inr (some 208))] (G, I, P) = some (some (.inl (if isc (I 221) p = true then 1 else 0)), (G, I, P)) := by
  refine am_doL (L := [some (.inr (.inr (some 208))), none]) (Nat.le_of_ble_eq_true rfl) rfl ?_
  refine ex_6_0 (ix_41i (v := (p : Int)) (sh_208 hS) h29 (ex_0 (ex_sub ⟨by omega, by omega⟩ (ex_7_1 rfl (ex_58 ?_)))))
  exact l_isc hS p hp
def wat (ws : List (List Int)) (t : List Int) : Int := if ooI ws 0 t = -1 then -1 else ooI ws 0 t + 1
def wit (ws : List (List Int)) (t : List Int) (k : Nat) (its : Int) : Int := if t = ws.getD k [] then (k : Int) + 1 else its
theorem lw_at {t : List Int} : am_it (fun k its => wit LWs t k its) 9 0 (-1) = wat LWs t := by
  by_cases h0 : t = [99, 108, 111, 117, 100]
  · subst h0; decide
  by_cases h1 : t = [107, 105, 110, 100]
  · subst h1; decide
  by_cases h2 : t = [114, 97, 103, 101]
  · subst h2; decide
  by_cases h3 : t = [98, 111, 120]
  · subst h3; decide
  by_cases h4 : t = [102, 111, 108, 107]
  · subst h4; decide
  by_cases h5 : t = [107, 110, 111, 119, 115]
  · subst h5; decide
  by_cases h6 : t = [119, 101, 116]
  · subst h6; decide
  by_cases h7 : t = [110, 105, 103, 104, 116]
  · subst h7; decide
  by_cases h8 : t = [109, 111, 111, 100]
  · subst h8; decide
  have e : ∀ k its, k < 9 → wit LWs t k its = its := by
    intro k its hk
    refine if_neg (fun z => ?_)
    have hm : t ∈ LWs := by rw [z, List.getD_eq_getElem?_getD, List.getElem?_eq_getElem (show k < LWs.length from hk)]; exact List.getElem_mem _
    simp only [LWs, List.mem_cons, List.not_mem_nil, or_false] at hm
    rcases hm with hm | hm | hm | hm | hm | hm | hm | hm | hm <;> contradiction
  have r : am_it (fun k its => wit LWs t k its) 9 0 (-1) = -1 := am_it_inv (f := fun k its => wit LWs t k its) (inv := fun _ its => its = -1) (N := 9) (fun i s hi h => (e i s hi).trans h) 9 0 (-1) rfl rfl
  rw [r]
  unfold wat LWs
  simp only [ooI, h0, h1, h2, h3, h4, h5, h6, h7, h8, if_false, if_true]
theorem ow_at {t : List Int} : am_it (fun k its => wit OWs t k its) 7 0 (-1) = wat OWs t := by
  by_cases h0 : t = [110, 105, 103, 104, 116]
  · subst h0; decide
  by_cases h1 : t = [100, 111, 110, 101]
  · subst h1; decide
  by_cases h2 : t = [108, 97, 116, 101, 115, 116]
  · subst h2; decide
  by_cases h3 : t = [108, 101, 97, 114, 110, 116]
  · subst h3; decide
  by_cases h4 : t = [115, 111, 97, 107, 101, 100]
  · subst h4; decide
  by_cases h5 : t = [97, 116]
  · subst h5; decide
  by_cases h6 : t = [98, 117, 115, 121]
  · subst h6; decide
  have e : ∀ k its, k < 7 → wit OWs t k its = its := by
    intro k its hk
    refine if_neg (fun z => ?_)
    have hm : t ∈ OWs := by rw [z, List.getD_eq_getElem?_getD, List.getElem?_eq_getElem (show k < OWs.length from hk)]; exact List.getElem_mem _
    simp only [OWs, List.mem_cons, List.not_mem_nil, or_false] at hm
    rcases hm with hm | hm | hm | hm | hm | hm | hm <;> contradiction
  have r : am_it (fun k its => wit OWs t k its) 7 0 (-1) = -1 := am_it_inv (f := fun k its => wit OWs t k its) (inv := fun _ its => its = -1) (N := 7) (fun i s hi h => (e i s hi).trans h) 7 0 (-1) rfl rfl
  rw [r]
  unfold wat OWs
  simp only [ooI, h0, h1, h2, h3, h4, h5, h6, if_false, if_true]
theorem c_partAt {d : Nat} {G : am_G} {I : Nat → Nat → Int} {P : Nat → Nat → Option Nat} (hS : ST G P) {b : Nat → Int} {n : Nat} (hB : TB b n) {s : Nat} (hM : MK I b n s) (hs : s ≤ n) (hK : ∀ k, k < 9 → I 223 k = hsh (LWs.getD k [])) : am_call am_B am_M (d + 2) 212 [(.inr (.inr (some 208)))] (G, I, P) = some (some (.inl (wat LWs (tk b n s))), (G, I, P)) := by
  have hlet : ∀ k, k < 9 → lets (LWs.getD k []) := fun k hk => lets_of (by revert k hk; decide)
  have hlen : ∀ k, k < 9 → 0 < (LWs.getD k []).length ∧ (LWs.getD k []).length ≤ 10 := by decide
  refine am_doL (L := [some (.inr (.inr (some 208))), none, none]) (Nat.le_of_ble_eq_true rfl) rfl ?_
  refine (ex_0 (ex_7_1 rfl (ex_0 (ex_7_2 rfl (ex_58 ?_)))))
  refine ex_forH (b := 1) (σ := Int) (9) (fun k its => wit LWs (tk b n s) k its) (fun k its => True) (fun k its e_k => [some (.inr (.inr (some 208))), some (.inl its), some (.inl (k : Int))]) (fun k its => (G, I, P)) ?_ ?_ (9) (0) ((-1)) (fun k_ => ([some (.inr (.inr (some 208))), some (.inl (-1)), some (.inl 0)] : am_L).getD k_ none) (by omega) (trivial) rfl (rfl) ?_
  · intro k its hik hvk
    exact trivial
  · intro k its e_k hik hvk its' hsk hkk
    refine (ex_4_2 (ex_0 ?_))
    refine ex_ic3 (fun hc7 => by exfalso; omega) (fun hc7 => ?_)
    refine (ex_6_0 (ex_6_0 (ix_41r (sh_208 hS) (pt_208_31 hS) (ex_4_2 (ix_32 (j := k) (v := (I 223 k)) (sh_223 hS) (by omega) (by omega) (by omega) rfl ?_)))))
    by_cases hb17 : (tk b n s = LWs.getD k [])
    · refine (ix_46 (S' := [(.inl 1)]) rfl (sh_208 hS) (c_isW_t hS hB hM hs (LWs.getD k []) (hlet k hik) (hlen k hik) (hK k hik).symm hb17) rfl rfl (ex_if0 (fun hc => by exfalso; revert hc; decide) (fun _ => ?_)))
      refine (ex_4_2 (ex_0 (ex_add ⟨by omega, by omega⟩ (ex_28 (ex_7_1 rfl (ex_10_2 ⟨by omega, by omega⟩ rfl (ex_28 ?_)))))))
      have e : its' = ((k : Int) + 1) := hsk.trans (if_pos hb17)
      rw [e] at hkk
      exact hkk (fun k_ => ([some (.inr (.inr (some 208))), some (.inl ((k : Int) + 1)), some (.inl ((k : Int) + 1))] : am_L).getD k_ none)
    · refine (ix_46 (S' := [(.inl 0)]) rfl (sh_208 hS) (c_isW_f hS hB hM hs (LWs.getD k []) (hlet k hik) (hlen k hik) (hK k hik).symm hb17) rfl rfl (ex_if0 (fun _ => ?_) (fun hc => by exfalso; revert hc; decide)))
      refine (ex_4_1 (ex_58 (ex_7_1 rfl (ex_10_2 ⟨by omega, by omega⟩ rfl (ex_28 ?_)))))
      have e : its' = its := hsk.trans (if_neg hb17)
      rw [e] at hkk
      exact hkk (fun k_ => ([some (.inr (.inr (some 208))), some (.inl its), some (.inl ((k : Int) + 1))] : am_L).getD k_ none)
  · intro its e_k hsk hvk
    refine (ex_4_2 (ex_0 ?_))
    refine ex_ic3 (fun hc7 => ?_) (fun hc7 => by exfalso; omega)
    refine (ex_4_1 ?_)
    exact ex_53 (by rw [hsk, lw_at])
theorem c_orderAt {d : Nat} {G : am_G} {I : Nat → Nat → Int} {P : Nat → Nat → Option Nat} (hS : ST G P) {b : Nat → Int} {n : Nat} (hB : TB b n) {s : Nat} (hM : MK I b n s) (hs : s ≤ n) (hK : ∀ k, k < 7 → I 224 k = hsh (OWs.getD k [])) : am_call am_B am_M (d + 2) 213 [(.inr (.inr (some 208)))] (G, I, P) = some (some (.inl (wat OWs (tk b n s))), (G, I, P)) := by
  have hlet : ∀ k, k < 7 → lets (OWs.getD k []) := fun k hk => lets_of (by revert k hk; decide)
  have hlen : ∀ k, k < 7 → 0 < (OWs.getD k []).length ∧ (OWs.getD k []).length ≤ 10 := by decide
  refine am_doL (L := [some (.inr (.inr (some 208))), none, none]) (Nat.le_of_ble_eq_true rfl) rfl ?_
  refine (ex_0 (ex_7_1 rfl (ex_0 (ex_7_2 rfl (ex_58 ?_)))))
  refine ex_forH (b := 1) (σ := Int) (7) (fun k its => wit OWs (tk b n s) k its) (fun k its => True) (fun k its e_k => [some (.inr (.inr (some 208))), some (.inl its), some (.inl (k : Int))]) (fun k its => (G, I, P)) ?_ ?_ (7) (0) ((-1)) (fun k_ => ([some (.inr (.inr (some 208))), some (.inl (-1)), some (.inl 0)] : am_L).getD k_ none) (by omega) (trivial) rfl (rfl) ?_
  · intro k its hik hvk
    exact trivial
  · intro k its e_k hik hvk its' hsk hkk
    refine (ex_4_2 (ex_0 ?_))
    refine ex_ic3 (fun hc7 => by exfalso; omega) (fun hc7 => ?_)
    refine (ex_6_0 (ex_6_0 (ix_41r (sh_208 hS) (pt_208_32 hS) (ex_4_2 (ix_32 (j := k) (v := (I 224 k)) (sh_224 hS) (by omega) (by omega) (by omega) rfl ?_)))))
    by_cases hb17 : (tk b n s = OWs.getD k [])
    · refine (ix_46 (S' := [(.inl 1)]) rfl (sh_208 hS) (c_isW_t hS hB hM hs (OWs.getD k []) (hlet k hik) (hlen k hik) (hK k hik).symm hb17) rfl rfl (ex_if0 (fun hc => by exfalso; revert hc; decide) (fun _ => ?_)))
      refine (ex_4_2 (ex_0 (ex_add ⟨by omega, by omega⟩ (ex_28 (ex_7_1 rfl (ex_10_2 ⟨by omega, by omega⟩ rfl (ex_28 ?_)))))))
      have e : its' = ((k : Int) + 1) := hsk.trans (if_pos hb17)
      rw [e] at hkk
      exact hkk (fun k_ => ([some (.inr (.inr (some 208))), some (.inl ((k : Int) + 1)), some (.inl ((k : Int) + 1))] : am_L).getD k_ none)
    · refine (ix_46 (S' := [(.inl 0)]) rfl (sh_208 hS) (c_isW_f hS hB hM hs (OWs.getD k []) (hlet k hik) (hlen k hik) (hK k hik).symm hb17) rfl rfl (ex_if0 (fun _ => ?_) (fun hc => by exfalso; revert hc; decide)))
      refine (ex_4_1 (ex_58 (ex_7_1 rfl (ex_10_2 ⟨by omega, by omega⟩ rfl (ex_28 ?_)))))
      have e : its' = its := hsk.trans (if_neg hb17)
      rw [e] at hkk
      exact hkk (fun k_ => ([some (.inr (.inr (some 208))), some (.inl its), some (.inl ((k : Int) + 1))] : am_L).getD k_ none)
  · intro its e_k hsk hvk
    refine (ex_4_2 (ex_0 ?_))
    refine ex_ic3 (fun hc7 => ?_) (fun hc7 => by exfalso; omega)
    refine (ex_4_1 ?_)
    exact ex_53 (by rw [hsk, ow_at])
