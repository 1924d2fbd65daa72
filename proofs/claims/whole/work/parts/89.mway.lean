/-! ===== the reference: the way ===== -/
theorem c_cost2 {d : Nat} {G : am_G} {J : Nat → Nat → Int} {P : Nat → Nat → Option Nat} (hS : ST G P) {ρ l : Nat → Int} {b o : Nat} (hb : b < 6) (ho : o < 6) (hρ : J 210 = ρ) (hl : ∀ x, x < 6 → J 234 x = l x) (h1 : hroad ρ) (h2 : m_lw l) : am_call am_B am_M (d + 2) 264 [.inr (.inr (some 208)), .inl (b : Int), .inl (o : Int)] (G, J, P) = some (some (.inl (m_cost ρ l b o)), (G, J, P)) := by
  have e := c_costTo (d := d) (l := J 234) hS hb ho hρ rfl h1 (fun x hx => by rw [hl x hx]; exact h2 x hx)
  rw [e]
  unfold m_cost
  rw [hl o ho]
theorem l_mway {d : Nat} {G : am_G} {J : Nat → Nat → Int} {P : Nat → Nat → Option Nat} (hS : ST G P) {ρ l : Nat → Int} {to_ : Nat} {fr iv : Int} (hρ : J 210 = ρ) (hl : ∀ x, x < 6 → J 234 x = l x) (h1 : hroad ρ) (hw : m_lw l) (hc : Clo ρ l) (hs : Sup ρ to_ l) : ∀ (m st a : Nat) (v6 : Option am_V), st + m = 6 → a < 6 → wrk l a + st ≤ 5 → l a < 100000000 → (st : Int) ≤ iv + 1 → am_ex (am_call am_B am_M (d + 3)) (am_B 266) (am_B 266 11) [some (.inr (.inr (some 208))), some (.inl fr), some (.inl (to_ : Int)), some (.inl iv), some (.inl (a : Int)), some (.inl (st : Int)), v6] [] (G, J, P) (fun z => z = (some (.inl (if (st : Int) ≤ iv then wst ρ l to_ (iv - (st : Int)).toNat a else (a : Int))), (G, J, P)))
  | 0, st, a, v6, e, ha, hr, _, _ => by omega
  | m + 1, st, a, v6, e, ha, hr, hla, hi => by
    by_cases hie : (st : Int) ≤ iv
    · rw [if_pos hie]
      by_cases hat : a = to_
      · subst hat
        rw [wst_to]
        refine (ex_4_5 (ex_4_3 ?_))
        refine ex_ic4 (fun hc80 => by exfalso; omega) (fun hc80 => ?_)
        refine (ex_4_4 (ex_4_2 ?_))
        refine ex_ic1 (fun hc86 => by exfalso; omega) (fun hc86 => ?_)
        refine (ex_0 ?_)
        exact ex_53 rfl
      · obtain ⟨n1, hn2, n3, n4⟩ := nxt_ok h1 hw hc hs ha hat hla
        have hk := wrk_lt hn2 n4
        have hres : (if ((st + 1 : Nat) : Int) ≤ iv then wst ρ l to_ (iv - ((st + 1 : Nat) : Int)).toNat (nxt ρ l a) else ((nxt ρ l a : Nat) : Int)) = wst ρ l to_ (iv - (st : Int)).toNat a := by
          by_cases h : (st : Int) = iv
          · rw [if_neg (by omega), show (iv - (st : Int)).toNat = 0 by omega]; exact (if_neg hat).symm
          · rw [if_pos (by omega), show (iv - (st : Int)).toNat = (iv - ((st + 1 : Nat) : Int)).toNat + 1 by omega]; exact (if_neg hat).symm
        refine (ex_4_5 (ex_4_3 ?_))
        refine ex_ic4 (fun hc80 => by exfalso; omega) (fun hc80 => ?_)
        refine (ex_4_4 (ex_4_2 ?_))
        refine ex_ic1 (fun hc86 => ?_) (fun hc86 => by exfalso; omega)
        refine (ex_0 (ex_7_6 rfl (ex_58 ?_)))
        refine ex_whR (b := 15) (fun x => decide (m_cost ρ l a x = l a)) (6) ((nxt ρ l a)) (fun x J_ => J_ = J) (fun x e_x => [some (.inr (.inr (some 208))), some (.inl fr), some (.inl (to_ : Int)), some (.inl iv), some (.inl (a : Int)), some (.inl (st : Int)), some (.inl (x : Int))]) ?_ ?_ (6) (0) (fun k_ => ([some (.inr (.inr (some 208))), some (.inl fr), some (.inl (to_ : Int)), some (.inl iv), some (.inl (a : Int)), some (.inl (st : Int)), some (.inl 0)] : am_L).getD k_ none) (J) (by omega) (rfl) (rfl) rfl
        · intro x e_x J_ hix hpx hvx hkx
          refine (ex_6_0 (ex_4_4 (ex_4_6 (ix_46 (S' := [(.inl (m_cost ρ l a x))]) rfl (sh_208 hS) (c_cost2 hS (l := l) (b := a) (o := x) ha (by omega) ((congrFun hvx 210).trans hρ) (fun x hx => (congrFun (congrFun hvx 234) x).trans (hl x hx)) h1 hw) rfl rfl (ex_6_0 (ix_41r (sh_208 hS) (pt_208_46 hS) (ex_4_4 (ix_30 (j := a) (v := (l a)) (sh_234 hS) (by omega) (by omega) (by omega) ((congrFun (congrFun hvx 234) _).trans (hl _ (by omega))) ?_))))))))
          refine ex_ic0 (fun hc109 => by exact absurd (decide_eq_true hc109) hpx) (fun hc109 => ?_)
          refine (ex_10_6 ⟨by omega, by omega⟩ rfl (ex_28 ?_))
          exact hkx (fun k_ => ([some (.inr (.inr (some 208))), some (.inl fr), some (.inl (to_ : Int)), some (.inl iv), some (.inl (a : Int)), some (.inl (st : Int)), some (.inl ((x : Int) + 1))] : am_L).getD k_ none) _ (hvx)
        · intro e_x J_ hzx hpx hvx
          refine (ex_6_0 (ex_4_4 (ex_4_6 (ix_46 (S' := [(.inl (m_cost ρ l a (nxt ρ l a)))]) rfl (sh_208 hS) (c_cost2 hS (l := l) (b := a) (o := (nxt ρ l a)) ha (by omega) ((congrFun hvx 210).trans hρ) (fun x hx => (congrFun (congrFun hvx 234) x).trans (hl x hx)) h1 hw) rfl rfl (ex_6_0 (ix_41r (sh_208 hS) (pt_208_46 hS) (ex_4_4 (ix_30 (j := a) (v := (l a)) (sh_234 hS) (by omega) (by omega) (by omega) ((congrFun (congrFun hvx 234) _).trans (hl _ (by omega))) ?_))))))))
          refine ex_ic0 (fun hc109 => ?_) (fun hc109 => by exact absurd n1 hc109)
          refine (ex_4_6 (ex_7_4 rfl (ex_10_5 ⟨by omega, by omega⟩ rfl (ex_28 ?_))))
          rw [hvx]
          have e := l_mway (d := d) (fr := fr) (iv := iv) hS hρ hl h1 hw hc hs m (st + 1) (nxt ρ l a) (some (.inl ((nxt ρ l a : Nat) : Int))) (by omega) hn2 (by omega) (by omega) (by omega)
          rw [hres] at e
          exact e
    · rw [if_neg hie]
      refine (ex_4_5 (ex_4_3 ?_))
      refine ex_ic4 (fun hc80 => ?_) (fun hc80 => by exfalso; omega)
      refine (ex_4_4 ?_)
      exact ex_53 rfl
/-- the reference: all but the row of distances, and what is thrown -/
def WFm (I J : Nat → Nat → Int) : Prop := ∀ q k, ¬ q = 234 → ¬ (q = 208 ∧ k = 0) → J q k = I q k
theorem m_way_b {d : Nat} {G : am_G} {I : Nat → Nat → Int} {P : Nat → Nat → Option Nat} (hS : ST G P) {fr to_ i : Int} (hb : ¬ ((0 ≤ fr ∧ fr < 6) ∧ (0 ≤ to_ ∧ to_ < 6) ∧ -1 ≤ i)) : am_call am_B am_M (d + 4) 266 [(.inr (.inr (some 208))), (.inl fr), (.inl to_), (.inl i)] (G, I, P) = some (some (.inl (-1)), (G, am_u2 I 208 0 0, P)) := by
  refine am_doL (L := [some (.inr (.inr (some 208))), some (.inl fr), some (.inl to_), some (.inl i), none, none, none]) (Nat.le_of_ble_eq_true rfl) rfl ?_
  refine (ex_6_0 (ex_0 (ix_42i (sh_208 hS) (ex_4_1 ?_))))
  by_cases hb6 : ((0 : Int) ≤ fr ∧ (fr : Int) < 6)
  · refine (ix_45 (S' := [(.inl 1)]) rfl (c_isBox_t hb6) rfl rfl (ex_if0 (fun hc => by exfalso; revert hc; decide) (fun _ => ?_)))
    refine (ex_4_2 ?_)
    by_cases hb13 : ((0 : Int) ≤ to_ ∧ (to_ : Int) < 6)
    · refine (ix_45 (S' := [(.inl 1)]) rfl (c_isBox_t hb13) rfl rfl (ex_if0 (fun hc => by exfalso; revert hc; decide) (fun _ => ?_)))
      refine (ex_4_3 (ex_0 ?_))
      refine ex_ic3 (fun hc21 => by exfalso; omega) (fun hc21 => ?_)
      refine (ex_0 ?_)
      exact ex_53 rfl
    · refine (ix_45 (S' := [(.inl 0)]) rfl (c_isBox_f hb13) rfl rfl (ex_if0 (fun _ => ?_) (fun hc => by exfalso; revert hc; decide)))
      refine (ex_0 ?_)
      exact ex_53 rfl
  · refine (ix_45 (S' := [(.inl 0)]) rfl (c_isBox_f hb6) rfl rfl (ex_if0 (fun _ => ?_) (fun hc => by exfalso; revert hc; decide)))
    refine (ex_0 ?_)
    exact ex_53 rfl
theorem m_way_n {d : Nat} {G : am_G} {I : Nat → Nat → Int} {P : Nat → Nat → Option Nat} (hS : ST G P) {ρ : Nat → Int} (hρ : I 210 = ρ) (h1 : hroad ρ) {fr to_ : Nat} (hfr : fr < 6) (ht : to_ < 6) : ∃ I1, am_call am_B am_M (d + 4) 266 [(.inr (.inr (some 208))), (.inl (fr : Int)), (.inl (to_ : Int)), (.inl (-1))] (G, I, P) = some (some (.inl (m_way ρ fr to_ (-1))), (G, I1, P)) ∧ (WFm I I1) := by
  have h210 : am_u2 I 208 0 0 210 = ρ := (u2_qf (by decide)).trans hρ
  have hr0 : ∀ j, j < 36 → 0 ≤ am_u2 I 208 0 0 210 (52 + j) ∧ am_u2 I 208 0 0 210 (52 + j) ≤ 9 := by rw [h210]; exact h1
  have hl : ∀ x, x < 6 → (am_u1 (am_u2 I 208 0 0) 234 (m_left (am_u2 I 208 0 0 210) to_ (am_u2 I 208 0 0 234))) 234 x = lc ρ to_ x := fun x hx => by rw [u1_e, h210]; exact m_left_lc x hx
  have hw := lc_w (to_ := to_) h1
  have hwf := hw fr hfr
  have hWF : WFm I (am_u1 (am_u2 I 208 0 0) 234 (m_left (am_u2 I 208 0 0 210) to_ (am_u2 I 208 0 0 234))) := fun q k a b => (u1_qk a).trans (u2_o b)
  have w : am_ex (am_call am_B am_M (d + 3)) (am_B 266) (am_B 266 0) [some (.inr (.inr (some 208))), some (.inl (fr : Int)), some (.inl (to_ : Int)), some (.inl (-1)), none, none, none] [] (G, I, P) (fun o => ∃ I1, o = (some (.inl (m_way ρ fr to_ (-1))), (G, I1, P)) ∧ (WFm I I1)) := by
    refine (ex_6_0 (ex_0 (ix_42i (sh_208 hS) (ex_4_1 ?_))))
    have hb6 : ((0 : Int) ≤ (fr : Int) ∧ ((fr : Int) : Int) < 6) := by omega
    refine (ix_45 (S' := [(.inl 1)]) rfl (c_isBox_t hb6) rfl rfl (ex_if0 (fun hc => by exfalso; revert hc; decide) (fun _ => ?_)))
    refine (ex_4_2 ?_)
    have hb13 : ((0 : Int) ≤ (to_ : Int) ∧ ((to_ : Int) : Int) < 6) := by omega
    refine (ix_45 (S' := [(.inl 1)]) rfl (c_isBox_t hb13) rfl rfl (ex_if0 (fun hc => by exfalso; revert hc; decide) (fun _ => ?_)))
    refine (ex_4_3 (ex_0 (ex_ic3 (fun _ => ?_) (fun hc => by exfalso; revert hc; decide))))
    refine (ex_6_0 (ex_4_2 (ix_46 (S' := []) rfl (sh_208 hS) (c_layLeft hS (to_ := to_) ht hr0) rfl rfl (ex_6_0 (ix_41r (sh_208 hS) (pt_208_46 hS) (ex_4_1 (ix_30 (j := fr) (v := (lc ρ to_ fr)) (sh_234 hS) (by omega) (by omega) (by omega) (hl _ (by omega)) (ex_0 ?_))))))))
    refine ex_ic0 (fun hc40 => ?_) (fun hc40 => ?_)
    · refine (ex_6_0 (ix_41r (sh_208 hS) (pt_208_46 hS) (ex_4_1 (ix_30 (j := fr) (v := (lc ρ to_ fr)) (sh_234 hS) (by omega) (by omega) (by omega) (hl _ (by omega)) (ex_0 ?_)))))
      refine ex_ic1 (fun hc57 => ?_) (fun hc57 => ?_)
      · refine (ex_6_0 (ix_41r (sh_208 hS) (pt_208_46 hS) (ex_4_1 (ix_30 (j := fr) (v := (lc ρ to_ fr)) (sh_234 hS) (by omega) (by omega) (by omega) (hl _ (by omega)) (ex_58 ?_)))))
        exact ex_53 ⟨_, by unfold m_way; first | (rw [if_pos (by omega)]; done) | (rw [if_neg (by omega), if_pos rfl]; done) | (split <;> first | rfl | omega), hWF⟩
      · refine (ex_0 (ex_28 ?_))
        exact ex_53 ⟨_, by unfold m_way; first | (rw [if_pos (by omega)]; done) | (rw [if_neg (by omega), if_pos rfl]; done) | (split <;> first | rfl | omega), hWF⟩
    · refine (ex_4_3 (ex_0 (ex_ic1 (fun hc => by exfalso; revert hc; decide) (fun _ => ?_))))
      refine (ex_6_0 (ix_41r (sh_208 hS) (pt_208_46 hS) (ex_4_1 (ix_30 (j := fr) (v := (lc ρ to_ fr)) (sh_234 hS) (by omega) (by omega) (by omega) (hl _ (by omega)) (ex_0 ?_)))))
      refine ex_ic1 (fun hc57 => ?_) (fun hc57 => ?_)
      · refine (ex_6_0 (ix_41r (sh_208 hS) (pt_208_46 hS) (ex_4_1 (ix_30 (j := fr) (v := (lc ρ to_ fr)) (sh_234 hS) (by omega) (by omega) (by omega) (hl _ (by omega)) (ex_58 ?_)))))
        exact ex_53 ⟨_, by unfold m_way; first | (rw [if_pos (by omega)]; done) | (rw [if_neg (by omega), if_pos rfl]; done) | (split <;> first | rfl | omega), hWF⟩
      · refine (ex_0 (ex_28 ?_))
        exact ex_53 ⟨_, by unfold m_way; first | (rw [if_pos (by omega)]; done) | (rw [if_neg (by omega), if_pos rfl]; done) | (split <;> first | rfl | omega), hWF⟩
  obtain ⟨o, e, I1, rfl, h⟩ := am_doQ (as := [(.inr (.inr (some 208))), (.inl (fr : Int)), (.inl (to_ : Int)), (.inl (-1))]) (Nat.le_of_ble_eq_true rfl) rfl w
  exact ⟨I1, e, h⟩
theorem m_way_z {d : Nat} {G : am_G} {I : Nat → Nat → Int} {P : Nat → Nat → Option Nat} (hS : ST G P) {ρ : Nat → Int} (hρ : I 210 = ρ) (h1 : hroad ρ) {fr to_ i : Nat} (hfr : fr < 6) (ht : to_ < 6) (hz : lc ρ to_ fr = 100000000) : ∃ I1, am_call am_B am_M (d + 4) 266 [(.inr (.inr (some 208))), (.inl (fr : Int)), (.inl (to_ : Int)), (.inl (i : Int))] (G, I, P) = some (some (.inl (m_way ρ fr to_ (i : Int))), (G, I1, P)) ∧ (WFm I I1) := by
  have h210 : am_u2 I 208 0 0 210 = ρ := (u2_qf (by decide)).trans hρ
  have hr0 : ∀ j, j < 36 → 0 ≤ am_u2 I 208 0 0 210 (52 + j) ∧ am_u2 I 208 0 0 210 (52 + j) ≤ 9 := by rw [h210]; exact h1
  have hl : ∀ x, x < 6 → (am_u1 (am_u2 I 208 0 0) 234 (m_left (am_u2 I 208 0 0 210) to_ (am_u2 I 208 0 0 234))) 234 x = lc ρ to_ x := fun x hx => by rw [u1_e, h210]; exact m_left_lc x hx
  have hw := lc_w (to_ := to_) h1
  have hwf := hw fr hfr
  have hWF : WFm I (am_u1 (am_u2 I 208 0 0) 234 (m_left (am_u2 I 208 0 0 210) to_ (am_u2 I 208 0 0 234))) := fun q k a b => (u1_qk a).trans (u2_o b)
  have w : am_ex (am_call am_B am_M (d + 3)) (am_B 266) (am_B 266 0) [some (.inr (.inr (some 208))), some (.inl (fr : Int)), some (.inl (to_ : Int)), some (.inl (i : Int)), none, none, none] [] (G, I, P) (fun o => ∃ I1, o = (some (.inl (m_way ρ fr to_ (i : Int))), (G, I1, P)) ∧ (WFm I I1)) := by
    refine (ex_6_0 (ex_0 (ix_42i (sh_208 hS) (ex_4_1 ?_))))
    have hb6 : ((0 : Int) ≤ (fr : Int) ∧ ((fr : Int) : Int) < 6) := by omega
    refine (ix_45 (S' := [(.inl 1)]) rfl (c_isBox_t hb6) rfl rfl (ex_if0 (fun hc => by exfalso; revert hc; decide) (fun _ => ?_)))
    refine (ex_4_2 ?_)
    have hb13 : ((0 : Int) ≤ (to_ : Int) ∧ ((to_ : Int) : Int) < 6) := by omega
    refine (ix_45 (S' := [(.inl 1)]) rfl (c_isBox_t hb13) rfl rfl (ex_if0 (fun hc => by exfalso; revert hc; decide) (fun _ => ?_)))
    refine (ex_4_3 (ex_0 ?_))
    refine ex_ic3 (fun hc21 => ?_) (fun hc21 => by exfalso; omega)
    refine (ex_6_0 (ex_4_2 (ix_46 (S' := []) rfl (sh_208 hS) (c_layLeft hS (to_ := to_) ht hr0) rfl rfl (ex_6_0 (ix_41r (sh_208 hS) (pt_208_46 hS) (ex_4_1 (ix_30 (j := fr) (v := (lc ρ to_ fr)) (sh_234 hS) (by omega) (by omega) (by omega) (hl _ (by omega)) (ex_0 ?_))))))))
    refine ex_ic0 (fun hc40 => ?_) (fun hc40 => by exfalso; omega)
    refine (ex_6_0 (ix_41r (sh_208 hS) (pt_208_46 hS) (ex_4_1 (ix_30 (j := fr) (v := (lc ρ to_ fr)) (sh_234 hS) (by omega) (by omega) (by omega) (hl _ (by omega)) (ex_0 ?_)))))
    refine ex_ic1 (fun hc57 => by exfalso; omega) (fun hc57 => ?_)
    refine (ex_0 (ex_28 ?_))
    exact ex_53 ⟨_, by unfold m_way; rw [if_pos hz], hWF⟩
  obtain ⟨o, e, I1, rfl, h⟩ := am_doQ (as := [(.inr (.inr (some 208))), (.inl (fr : Int)), (.inl (to_ : Int)), (.inl (i : Int))]) (Nat.le_of_ble_eq_true rfl) rfl w
  exact ⟨I1, e, h⟩
theorem m_way_y {d : Nat} {G : am_G} {I : Nat → Nat → Int} {P : Nat → Nat → Option Nat} (hS : ST G P) {ρ : Nat → Int} (hρ : I 210 = ρ) (h1 : hroad ρ) {fr to_ i : Nat} (hfr : fr < 6) (ht : to_ < 6) (hz : ¬ lc ρ to_ fr = 100000000) : ∃ I1, am_call am_B am_M (d + 4) 266 [(.inr (.inr (some 208))), (.inl (fr : Int)), (.inl (to_ : Int)), (.inl (i : Int))] (G, I, P) = some (some (.inl (m_way ρ fr to_ (i : Int))), (G, I1, P)) ∧ (WFm I I1) := by
  have h210 : am_u2 I 208 0 0 210 = ρ := (u2_qf (by decide)).trans hρ
  have hr0 : ∀ j, j < 36 → 0 ≤ am_u2 I 208 0 0 210 (52 + j) ∧ am_u2 I 208 0 0 210 (52 + j) ≤ 9 := by rw [h210]; exact h1
  have hl : ∀ x, x < 6 → (am_u1 (am_u2 I 208 0 0) 234 (m_left (am_u2 I 208 0 0 210) to_ (am_u2 I 208 0 0 234))) 234 x = lc ρ to_ x := fun x hx => by rw [u1_e, h210]; exact m_left_lc x hx
  have hw := lc_w (to_ := to_) h1
  have hwf := hw fr hfr
  have hWF : WFm I (am_u1 (am_u2 I 208 0 0) 234 (m_left (am_u2 I 208 0 0 210) to_ (am_u2 I 208 0 0 234))) := fun q k a b => (u1_qk a).trans (u2_o b)
  have h5 := wrk_5 (l := lc ρ to_) hfr
  have w : am_ex (am_call am_B am_M (d + 3)) (am_B 266) (am_B 266 0) [some (.inr (.inr (some 208))), some (.inl (fr : Int)), some (.inl (to_ : Int)), some (.inl (i : Int)), none, none, none] [] (G, I, P) (fun o => ∃ I1, o = (some (.inl (m_way ρ fr to_ (i : Int))), (G, I1, P)) ∧ (WFm I I1)) := by
    refine (ex_6_0 (ex_0 (ix_42i (sh_208 hS) (ex_4_1 ?_))))
    have hb6 : ((0 : Int) ≤ (fr : Int) ∧ ((fr : Int) : Int) < 6) := by omega
    refine (ix_45 (S' := [(.inl 1)]) rfl (c_isBox_t hb6) rfl rfl (ex_if0 (fun hc => by exfalso; revert hc; decide) (fun _ => ?_)))
    refine (ex_4_2 ?_)
    have hb13 : ((0 : Int) ≤ (to_ : Int) ∧ ((to_ : Int) : Int) < 6) := by omega
    refine (ix_45 (S' := [(.inl 1)]) rfl (c_isBox_t hb13) rfl rfl (ex_if0 (fun hc => by exfalso; revert hc; decide) (fun _ => ?_)))
    refine (ex_4_3 (ex_0 ?_))
    refine ex_ic3 (fun hc21 => ?_) (fun hc21 => by exfalso; omega)
    refine (ex_6_0 (ex_4_2 (ix_46 (S' := []) rfl (sh_208 hS) (c_layLeft hS (to_ := to_) ht hr0) rfl rfl (ex_6_0 (ix_41r (sh_208 hS) (pt_208_46 hS) (ex_4_1 (ix_30 (j := fr) (v := (lc ρ to_ fr)) (sh_234 hS) (by omega) (by omega) (by omega) (hl _ (by omega)) (ex_0 ?_))))))))
    refine ex_ic0 (fun hc40 => by exfalso; omega) (fun hc40 => ?_)
    refine (ex_4_3 (ex_0 ?_))
    refine ex_ic1 (fun hc45 => ?_) (fun hc45 => by exfalso; omega)
    refine (ex_4_1 (ex_7_4 rfl (ex_0 (ex_7_5 rfl (ex_58 ?_)))))
    have e := l_mway (d := d) (G := G) (P := P) (J := (am_u1 (am_u2 I 208 0 0) 234 (m_left (am_u2 I 208 0 0 210) to_ (am_u2 I 208 0 0 234)))) (to_ := to_) (fr := (fr : Int)) (iv := (i : Int)) hS ((u1_q (by decide)).trans h210) hl h1 hw (lc_clo h1 ht) (lc_sup h1) 6 0 fr none rfl hfr (by omega) (by omega) (by omega)
    rw [if_pos (by omega), show ((i : Int) - ((0 : Nat) : Int)).toNat = i by omega] at e
    have hmw : m_way ρ fr to_ (i : Int) = wst ρ (lc ρ to_) to_ i fr := by unfold m_way; rw [if_neg hz, if_neg (by omega), Int.toNat_natCast]
    rw [hmw]
    obtain ⟨nn, oo, e1, e2⟩ := e
    exact ⟨nn, oo, e1, _, e2, hWF⟩
  obtain ⟨o, e, I1, rfl, h⟩ := am_doQ (as := [(.inr (.inr (some 208))), (.inl (fr : Int)), (.inl (to_ : Int)), (.inl (i : Int))]) (Nat.le_of_ble_eq_true rfl) rfl w
  exact ⟨I1, e, h⟩
