/-! ===== the reference reads orders ===== -/
/-- orders(): the text is read; behind its end -/
def zO (d : Nat) (G : am_G) (P : Nat → Nat → Option Nat) (Q : am_O → Prop) (J : Nat → Nat → Int) : Prop := am_ex (am_call am_B am_M (d + 9)) (am_B 279) ((am_B 279 4).drop 2) [some (.inr (.inr (some 208))), none, none, none] [] (G, J, P) Q
theorem zO_b {d : Nat} {G : am_G} {P : Nat → Nat → Option Nat} {Q : am_O → Prop} {I J : Nat → Nat → Int} (hS : ST G P) {x : Nat} (h19 : J 208 19 = 1) (h18 : J 208 18 = (x : Int)) (hF : MLF I J) (hk : ∀ K, PO MO I K (.inl x) → zO d G P Q K) : am_ex (am_call am_B am_M (d + 9)) (am_B 279) (am_B 279 4) [some (.inr (.inr (some 208))), none, none, none] [] (G, J, P) Q := by
  refine ex_6_0 (ix_46 (S' := []) rfl (sh_208 hS) (c_end_b (d := d + 5) hS h19) rfl rfl ?_)
  exact hk _ ⟨u2_e, (u2_k (by decide)).trans u2_e, fun q k a b c => (u2_o (by omega)).trans ((u2_o (by omega)).trans (hF q k a b c)), (u2_k (by decide)).trans ((u2_k (by decide)).trans h19), (u2_k (by decide)).trans ((u2_k (by decide)).trans h18)⟩
theorem zO_f {d : Nat} {G : am_G} {P : Nat → Nat → Option Nat} {Q : am_O → Prop} {I J : Nat → Nat → Int} (hS : ST G P) {b : Nat → Int} {n : Nat} (hB : TB b n) {od : Bool} {s l c : Nat} (hX : MX J b n od s l c) (he : ¬ s = n) (hF : MLF I J) (hk : ∀ K, PO MO I K (.inl s) → zO d G P Q K) : am_ex (am_call am_B am_M (d + 9)) (am_B 279) (am_B 279 4) [some (.inr (.inr (some 208))), none, none, none] [] (G, J, P) Q := by
  refine ex_6_0 (ix_46 (S' := []) rfl (sh_208 hS) (c_end_f (d := d + 5) hS hB hX he) rfl rfl ?_)
  exact hk _ ⟨u2_e, (u2_k (by decide)).trans u2_e, fun q k a b c => (u2_o (by omega)).trans ((u2_o (by omega)).trans ((u2_o (by omega)).trans ((u2_o (by omega)).trans (hF q k a b c)))), (u2_k (by decide)).trans ((u2_k (by decide)).trans ((u2_k (by decide)).trans u2_e)), (u2_k (by decide)).trans ((u2_k (by decide)).trans u2_e)⟩
theorem zO_o {d : Nat} {G : am_G} {P : Nat → Nat → Option Nat} {Q : am_O → Prop} {I J : Nat → Nat → Int} (hS : ST G P) {b : Nat → Int} {n : Nat} (hB : TB b n) {s l c m : Nat} {cl : Nat → Oc} (hX : MX J b n true s l c) (he : s = n) (h21 : J 208 21 = (m : Int)) (hm : m ≤ 12) (hC : ∀ j, j < m → MO J j c (cl j)) (hF : MLF I J) (hk : ∀ K, PO MO I K (.inr (m, cl)) → zO d G P Q K) : am_ex (am_call am_B am_M (d + 9)) (am_B 279) (am_B 279 4) [some (.inr (.inr (some 208))), none, none, none] [] (G, J, P) Q := by
  have hn4 := hB.1
  have hc := MX_c hX
  have hs := MX_s hX
  refine ex_6_0 (ix_46 (S' := []) rfl (sh_208 hS) (c_end_o (d := d + 5) hS hB hX he) rfl rfl ?_)
  exact hk _ ⟨u2_e, (u2_k (by decide)).trans u2_e, fun q k a b c => (u2_o (by omega)).trans ((u2_o (by omega)).trans (hF q k a b c)), (u2_k (by decide)).trans ((u2_k (by decide)).trans (MX_b hX)), (u2_k (by decide)).trans ((u2_k (by decide)).trans (MX_18 hX)), (u2_k (by decide)).trans ((u2_k (by decide)).trans h21), hm, c, (u2_k (by decide)).trans ((u2_k (by decide)).trans (MX_23 hX)), by omega, fun j hj => MO_mono (hC j hj) (fun k _ _ => (u2_q (by decide)).trans (u2_q (by decide))) (fun k _ => ⟨(u2_q (by decide)).trans (u2_q (by decide)), (u2_q (by decide)).trans (u2_q (by decide))⟩) (Nat.le_refl _)⟩
theorem zO_l {d : Nat} {G : am_G} {P : Nat → Nat → Option Nat} {Q : am_O → Prop} {I : Nat → Nat → Int} (hS : ST G P) {b : Nat → Int} {n : Nat} (hB : TB b n) : ∀ (k m : Nat) (J : Nat → Nat → Int) (s l c : Nat) (cl : Nat → Oc), m + k = 12 → MX J b n true s l c → J 208 21 = (m : Int) → (∀ j, j < m → MO J j c (cl j)) → MLF I J → (∀ K, PO MO I K (if s = n then .inr (m, cl) else if tk b n s = [59] then px_cls b n true k (nx b n s) l m cl else .inl s) → zO d G P Q K) → am_ex (am_call am_B am_M (d + 9)) (am_B 279) (am_B 279 1) [some (.inr (.inr (some 208))), none, none, none] [] (G, J, P) Q := by
  intro k
  induction k with
  | zero =>
    intro m J s l c cl hm hX h21 hC hF hk
    have hs := MX_s hX
    by_cases he : s = n
    · rw [if_pos he] at hk
      refine ex_6_0 (ix_41i (v := 0) (sh_208 hS) (MX_b hX) (ex_if1 (fun h => absurd rfl h) (fun _ => ?_)))
      refine ex_6_0 (ex_0 (ix_46 (S' := [.inl 0]) rfl (sh_208 hS) (c_isS_f hS hB (MX_M hX) hs (v := 59) (by decide) (by rw [tk_end (by omega)]; decide)) rfl rfl (ex_if0 (fun _ => ?_) (fun h => absurd rfl h))))
      exact zO_o hS hB hX he h21 (by omega) hC hF hk
    · rw [if_neg he] at hk
      by_cases hsc : tk b n s = [59]
      · rw [if_pos hsc] at hk
        have hlt := tk_lt hs hsc
        obtain ⟨J1, e1, m1, f1⟩ := c_next (d := d + 7) hS hB (MX_M hX) hs
        have hX1 := MX_next hX hlt m1 f1
        obtain ⟨o_, eo, qo⟩ := cx (d := d) (i := m) hS hB hX1 ((f1 _ _ (by decide)).trans h21)
        rw [if_neg (by omega)] at qo
        obtain ⟨J2, rfl, b2, x2, f2⟩ := qo
        refine ex_6_0 (ix_41i (v := 0) (sh_208 hS) (MX_b hX) (ex_if1 (fun h => absurd rfl h) (fun _ => ?_)))
        refine ex_6_0 (ex_0 (ix_46 (S' := [.inl 1]) rfl (sh_208 hS) (c_isS_t hS hB (MX_M hX) hs (v := 59) (by decide) hsc) rfl rfl (ex_if0 (fun h => by exfalso; revert h; decide) (fun _ => ?_))))
        refine ex_6_0 (ix_46 (S' := []) rfl (sh_208 hS) e1 rfl rfl (ex_6_0 (ix_46 (S' := []) rfl (sh_208 hS) eo rfl rfl (ex_28 ?_))))
        refine ex_6_0 (ix_41i (v := 1) (sh_208 hS) b2 (ex_if1 (fun _ => ?_) (fun h => by exfalso; revert h; decide)))
        exact zO_b hS b2 x2 (MLF_trans hF (MLF_trans (MLF_MFr (MFr_MKF (c := 0) f1)) f2)) hk
      · rw [if_neg hsc] at hk
        refine ex_6_0 (ix_41i (v := 0) (sh_208 hS) (MX_b hX) (ex_if1 (fun h => absurd rfl h) (fun _ => ?_)))
        refine ex_6_0 (ex_0 (ix_46 (S' := [.inl 0]) rfl (sh_208 hS) (c_isS_f hS hB (MX_M hX) hs (v := 59) (by decide) hsc) rfl rfl (ex_if0 (fun _ => ?_) (fun h => absurd rfl h))))
        exact zO_f hS hB hX he hF hk
  | succ k ih =>
    intro m J s l c cl hm hX h21 hC hF hk
    have hs := MX_s hX
    by_cases he : s = n
    · rw [if_pos he] at hk
      refine ex_6_0 (ix_41i (v := 0) (sh_208 hS) (MX_b hX) (ex_if1 (fun h => absurd rfl h) (fun _ => ?_)))
      refine ex_6_0 (ex_0 (ix_46 (S' := [.inl 0]) rfl (sh_208 hS) (c_isS_f hS hB (MX_M hX) hs (v := 59) (by decide) (by rw [tk_end (by omega)]; decide)) rfl rfl (ex_if0 (fun _ => ?_) (fun h => absurd rfl h))))
      exact zO_o hS hB hX he h21 (by omega) hC hF hk
    · rw [if_neg he] at hk
      by_cases hsc : tk b n s = [59]
      · rw [if_pos hsc] at hk
        have hlt := tk_lt hs hsc
        obtain ⟨J1, e1, m1, f1⟩ := c_next (d := d + 7) hS hB (MX_M hX) hs
        have hX1 := MX_next hX hlt m1 f1
        obtain ⟨o_, eo, qo⟩ := cx (d := d) (i := m) hS hB hX1 ((f1 _ _ (by decide)).trans h21)
        rw [if_pos (by omega)] at qo
        refine ex_6_0 (ix_41i (v := 0) (sh_208 hS) (MX_b hX) (ex_if1 (fun h => absurd rfl h) (fun _ => ?_)))
        refine ex_6_0 (ex_0 (ix_46 (S' := [.inl 1]) rfl (sh_208 hS) (c_isS_t hS hB (MX_M hX) hs (v := 59) (by decide) hsc) rfl rfl (ex_if0 (fun h => by exfalso; revert h; decide) (fun _ => ?_))))
        cases hp : px_cl b n true (nx b n s) l with
        | inl x =>
          rw [hp] at qo
          obtain ⟨J2, rfl, b2, x2, f2⟩ := qo
          refine ex_6_0 (ix_46 (S' := []) rfl (sh_208 hS) e1 rfl rfl (ex_6_0 (ix_46 (S' := []) rfl (sh_208 hS) eo rfl rfl (ex_28 ?_))))
          refine ex_6_0 (ix_41i (v := 1) (sh_208 hS) b2 (ex_if1 (fun _ => ?_) (fun h => by exfalso; revert h; decide)))
          rw [show px_cls b n true (k + 1) (nx b n s) l m cl = .inl x from by simp only [px_cls, hp]] at hk
          exact zO_b hS b2 x2 (MLF_trans hF (MLF_trans (MLF_MFr (MFr_MKF (c := 0) f1)) f2)) hk
        | inr q =>
          obtain ⟨s2, l2, oc⟩ := q
          rw [hp] at qo
          obtain ⟨J2, c2, rfl, hX2, hc2, h212, hC2, f2⟩ := qo
          refine ex_6_0 (ix_46 (S' := []) rfl (sh_208 hS) e1 rfl rfl (ex_6_0 (ix_46 (S' := []) rfl (sh_208 hS) eo rfl rfl (ex_28 ?_))))
          rw [show px_cls b n true (k + 1) (nx b n s) l m cl = (if s2 = n then .inr (m + 1, am_u1 cl m oc) else if tk b n s2 = [59] then px_cls b n true k (nx b n s2) l2 (m + 1) (am_u1 cl m oc) else .inl s2) from by simp only [px_cls, hp]] at hk
          refine ih (m + 1) J2 s2 l2 c2 (am_u1 cl m oc) (by omega) hX2 h212 (fun j hj => ?_) (MLF_trans hF (MLF_trans (MLF_MFr (MFr_MKF (c := 0) f1)) (MLF_MCF f2 (Or.inr rfl)))) hk
          by_cases e : j = m
          · rw [e, am_u1, if_pos rfl]; exact hC2
          · rw [am_u1, if_neg e]
            exact MO_mono (hC j (by omega)) (fun k' a1 a2 => (f2 238 k' (by omega) (by omega) (by omega) (by omega)).trans (f1 _ _ (by omega))) (fun k' hk' => ⟨(f2 219 k' (by omega) (by omega) (by omega) (by omega)).trans (f1 _ _ (by omega)), (f2 220 k' (by omega) (by omega) (by omega) (by omega)).trans (f1 _ _ (by omega))⟩) hc2
      · rw [if_neg hsc] at hk
        refine ex_6_0 (ix_41i (v := 0) (sh_208 hS) (MX_b hX) (ex_if1 (fun h => absurd rfl h) (fun _ => ?_)))
        refine ex_6_0 (ex_0 (ix_46 (S' := [.inl 0]) rfl (sh_208 hS) (c_isS_f hS hB (MX_M hX) hs (v := 59) (by decide) hsc) rfl rfl (ex_if0 (fun _ => ?_) (fun h => absurd rfl h))))
        exact zO_f hS hB hX he hF hk
theorem am_M279 : am_M 279 = 4 := rfl
