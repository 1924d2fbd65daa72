/-! ===== the reference reads a law ===== -/
theorem cw_f {d : Nat} {G : am_G} {I : Nat → Nat → Int} {P : Nat → Nat → Option Nat} (hS : ST G P) {b : Nat → Int} {n : Nat} (hB : TB b n) {s l c i : Nat} (hX : MX I b n false s l c) (h21 : I 208 21 = (i : Int)) (hf : vrb false (tk b n s) = -1 ∨ 12 ≤ i) : ∃ o, am_call am_B am_M (d + 9) 223 [(.inr (.inr (some 208)))] (G, I, P) = some o ∧ QK G P b n false 218 ML I c i (if i < 12 then px_cl b n false s l else .inl s) o := by
  have hlet : ∀ k, k < 4 → lets (HWs.getD k []) := fun k hk => lets_of (by revert k hk; decide)
  have hlen : ∀ k, k < 4 → 0 < (HWs.getD k []).length ∧ (HWs.getD k []).length ≤ 10 := by decide
  have hKw := (MX_K hX).2.2.1
  have hn4 := hB.1
  have hs := MX_s hX
  have hve : vrb false (tk b n s) = ooI HWs 0 (tk b n s) := rfl
  refine am_doQ (L := [some (.inr (.inr (some 208))), none, none, none]) (Nat.le_of_ble_eq_true rfl) rfl ?_
  refine (ex_0 (ex_7_1 rfl (ex_0 (ex_7_2 rfl (ex_58 ?_)))))
  refine ex_forH (b := 1) (σ := Int) (4) (fun k its => hit HWs (tk b n s) k its) (fun k its => True) (fun k its e_k => [some (.inr (.inr (some 208))), some (.inl its), some (.inl (k : Int)), none]) (fun k its => (G, I, P)) ?_ ?_ (4) (0) ((-1)) (fun k_ => ([some (.inr (.inr (some 208))), some (.inl (-1)), some (.inl 0), none] : am_L).getD k_ none) (by omega) (trivial) rfl (rfl) ?_
  · intro k its hik hvk
    exact trivial
  · intro k its e_k hik hvk its' hsk hkk
    refine (ex_4_2 (ex_0 ?_))
    refine ex_ic3 (fun hc6 => by exfalso; omega) (fun hc6 => ?_)
    refine (ex_6_0 (ex_6_0 (ix_41r (sh_208 hS) (pt_208_33 hS) (ex_4_2 (ix_32 (j := k) (v := (I 225 k)) (sh_225 hS) (by omega) (by omega) (by omega) rfl ?_)))))
    by_cases hb16 : (tk b n s = HWs.getD k [])
    · refine (ix_46 (S' := [(.inl 1)]) rfl (sh_208 hS) (c_isW_t hS hB (MX_M hX) (MX_s hX) (HWs.getD k []) (hlet k hik) (hlen k hik) (hKw k hik).symm hb16) rfl rfl (ex_if0 (fun hc => by exfalso; revert hc; decide) (fun _ => ?_)))
      refine (ex_4_2 (ex_28 (ex_7_1 rfl (ex_10_2 ⟨by omega, by omega⟩ rfl (ex_28 ?_)))))
      have e : its' = (k : Int) := hsk.trans (if_pos hb16)
      rw [e] at hkk
      exact hkk (fun k_ => ([some (.inr (.inr (some 208))), some (.inl (k : Int)), some (.inl ((k : Int) + 1)), none] : am_L).getD k_ none)
    · refine (ix_46 (S' := [(.inl 0)]) rfl (sh_208 hS) (c_isW_f hS hB (MX_M hX) (MX_s hX) (HWs.getD k []) (hlet k hik) (hlen k hik) (hKw k hik).symm hb16) rfl rfl (ex_if0 (fun _ => ?_) (fun hc => by exfalso; revert hc; decide)))
      refine (ex_4_1 (ex_58 (ex_7_1 rfl (ex_10_2 ⟨by omega, by omega⟩ rfl (ex_28 ?_)))))
      have e : its' = its := hsk.trans (if_neg hb16)
      rw [e] at hkk
      exact hkk (fun k_ => ([some (.inr (.inr (some 208))), some (.inl its), some (.inl ((k : Int) + 1)), none] : am_L).getD k_ none)
  · intro its e_k hsk hvk
    rw [hw_at] at hsk
    rw [← hve] at hsk
    refine (ex_4_2 (ex_0 ?_))
    refine ex_ic3 (fun hc6 => ?_) (fun hc6 => by exfalso; omega)
    refine (ex_6_0 (ex_4_1 (ex_0 ?_)))
    refine ex_ic0 (fun hc37 => ?_) (fun hc37 => ?_)
    · refine (ex_0 (ex_58 (ix_46 (S' := []) rfl (sh_208 hS) (c_must_f hS (MX_M hX).2.1 (MX_b hX)) rfl rfl (ex_6_0 (ix_41i (v := 1) (sh_208 hS) ((u2_k (by decide)).trans u2_e) (ex_if0 (fun hc => by exfalso; revert hc; decide) (fun _ => ?_)))))))
      exact ex_56 (QK_inl (by by_cases h12 : i < 12; (rw [if_pos h12]; unfold px_cl; rw [if_pos (hf.resolve_right (by omega))]); (rw [if_neg h12])) ((u2_k (by decide)).trans u2_e) u2_e (fun q k a _ _ => (u2_o (by omega)).trans (u2_o (by omega))))
    · refine (ex_6_0 (ix_41i (v := (i : Int)) (sh_208 hS) h21 (ex_0 ?_)))
      refine ex_ic3 (fun hc46 => ?_) (fun hc46 => by exfalso; omega)
      refine (ex_0 (ex_58 (ix_46 (S' := []) rfl (sh_208 hS) (c_must_f hS (MX_M hX).2.1 (MX_b hX)) rfl rfl (ex_6_0 (ix_41i (v := 1) (sh_208 hS) ((u2_k (by decide)).trans u2_e) (ex_if0 (fun hc => by exfalso; revert hc; decide) (fun _ => ?_)))))))
      exact ex_56 (QK_inl (by by_cases h12 : i < 12; (rw [if_pos h12]; unfold px_cl; rw [if_pos (hf.resolve_right (by omega))]); (rw [if_neg h12])) ((u2_k (by decide)).trans u2_e) u2_e (fun q k a _ _ => (u2_o (by omega)).trans (u2_o (by omega))))
theorem cw_g {d : Nat} {G : am_G} {I : Nat → Nat → Int} {P : Nat → Nat → Option Nat} (hS : ST G P) {b : Nat → Int} {n : Nat} (hB : TB b n) {s l c i : Nat} (hX : MX I b n false s l c) (h21 : I 208 21 = (i : Int)) {v : Nat} (hvn : vrb false (tk b n s) = (v : Int)) (hi : i < 12) : ∃ o, am_call am_B am_M (d + 9) 223 [(.inr (.inr (some 208)))] (G, I, P) = some o ∧ QK G P b n false 218 ML I c i (if i < 12 then px_cl b n false s l else .inl s) o := by
  have hlet : ∀ k, k < 4 → lets (HWs.getD k []) := fun k hk => lets_of (by revert k hk; decide)
  have hlen : ∀ k, k < 4 → 0 < (HWs.getD k []).length ∧ (HWs.getD k []).length ≤ 10 := by decide
  have hKw := (MX_K hX).2.2.1
  have hn4 := hB.1
  have hs := MX_s hX
  have hve : vrb false (tk b n s) = ooI HWs 0 (tk b n s) := rfl
  have hvm : ¬ vrb false (tk b n s) = -1 := by omega
  have hrng := ooI_rng (t := tk b n s) HWs 0
  have hln : HWs.length = 4 := rfl
  rw [← hve, hln] at hrng
  have hv4 : v < 4 := by omega
  have hlt : s < n := by
    have h9 := ooI_some (t := tk b n s) HWs 0 (fun zz => hvm (hve.trans zz))
    have hne : ∀ w, w ∈ HWs → ¬ w = [] := by decide
    cases e : tk b n s with
    | nil => exact absurd e (hne _ h9)
    | cons cc kw => exact tk_lt hs e
  have hr : (if i < 12 then px_cl b n false s l else Sum.inl s) = st1K b n false v (nx b n s) l := by rw [if_pos hi]; unfold px_cl; rw [if_neg hvm, hvn, Int.toNat_natCast]
  have hnx := nx_2 (b := b) s hlt
  have hg := px_sum_ok (b := b) (n := n) (od := false) 8 (nx b n s) l hnx.2 (MX_l hX)
  refine am_doQ (L := [some (.inr (.inr (some 208))), none, none, none]) (Nat.le_of_ble_eq_true rfl) rfl ?_
  refine (ex_0 (ex_7_1 rfl (ex_0 (ex_7_2 rfl (ex_58 ?_)))))
  refine ex_forH (b := 1) (σ := Int) (4) (fun k its => hit HWs (tk b n s) k its) (fun k its => True) (fun k its e_k => [some (.inr (.inr (some 208))), some (.inl its), some (.inl (k : Int)), none]) (fun k its => (G, I, P)) ?_ ?_ (4) (0) ((-1)) (fun k_ => ([some (.inr (.inr (some 208))), some (.inl (-1)), some (.inl 0), none] : am_L).getD k_ none) (by omega) (trivial) rfl (rfl) ?_
  · intro k its hik hvk
    exact trivial
  · intro k its e_k hik hvk its' hsk hkk
    refine (ex_4_2 (ex_0 ?_))
    refine ex_ic3 (fun hc6 => by exfalso; omega) (fun hc6 => ?_)
    refine (ex_6_0 (ex_6_0 (ix_41r (sh_208 hS) (pt_208_33 hS) (ex_4_2 (ix_32 (j := k) (v := (I 225 k)) (sh_225 hS) (by omega) (by omega) (by omega) rfl ?_)))))
    by_cases hb16 : (tk b n s = HWs.getD k [])
    · refine (ix_46 (S' := [(.inl 1)]) rfl (sh_208 hS) (c_isW_t hS hB (MX_M hX) (MX_s hX) (HWs.getD k []) (hlet k hik) (hlen k hik) (hKw k hik).symm hb16) rfl rfl (ex_if0 (fun hc => by exfalso; revert hc; decide) (fun _ => ?_)))
      refine (ex_4_2 (ex_28 (ex_7_1 rfl (ex_10_2 ⟨by omega, by omega⟩ rfl (ex_28 ?_)))))
      have e : its' = (k : Int) := hsk.trans (if_pos hb16)
      rw [e] at hkk
      exact hkk (fun k_ => ([some (.inr (.inr (some 208))), some (.inl (k : Int)), some (.inl ((k : Int) + 1)), none] : am_L).getD k_ none)
    · refine (ix_46 (S' := [(.inl 0)]) rfl (sh_208 hS) (c_isW_f hS hB (MX_M hX) (MX_s hX) (HWs.getD k []) (hlet k hik) (hlen k hik) (hKw k hik).symm hb16) rfl rfl (ex_if0 (fun _ => ?_) (fun hc => by exfalso; revert hc; decide)))
      refine (ex_4_1 (ex_58 (ex_7_1 rfl (ex_10_2 ⟨by omega, by omega⟩ rfl (ex_28 ?_)))))
      have e : its' = its := hsk.trans (if_neg hb16)
      rw [e] at hkk
      exact hkk (fun k_ => ([some (.inr (.inr (some 208))), some (.inl its), some (.inl ((k : Int) + 1)), none] : am_L).getD k_ none)
  · intro its e_k hsk hvk
    rw [hw_at] at hsk
    rw [← hve, hvn] at hsk
    subst hsk
    refine (ex_4_2 (ex_0 ?_))
    refine ex_ic3 (fun hc6 => ?_) (fun hc6 => by exfalso; omega)
    refine (ex_6_0 (ex_4_1 (ex_0 ?_)))
    refine ex_ic0 (fun hc37 => by exfalso; omega) (fun hc37 => ?_)
    refine (ex_6_0 (ix_41i (v := (i : Int)) (sh_208 hS) h21 (ex_0 ?_)))
    refine ex_ic3 (fun hc46 => by exfalso; omega) (fun hc46 => ?_)
    refine (ex_0 (ex_28 ?_))
    obtain ⟨J1, e1, m1, f1⟩ := c_must_t (d := d + 5) hS hB (MX_M hX) (MX_s hX) (MX_b hX)
    have hX1 := MX_next hX hlt m1 f1
    refine (ix_46 (S' := []) rfl (sh_208 hS) e1 rfl rfl (ex_6_0 (ix_41i (v := 0) (sh_208 hS) (MX_b hX1) (ex_if0 (fun _ => ?_) (fun hc => by exfalso; revert hc; decide)))))
    have h21b : J1 208 21 = (i : Int) := (f1 _ _ (by decide)).trans h21
    have hFb : MCF 218 c i I J1 := fun q k a _ _ _ => f1 q k (by omega)
    rw [hr]
    by_cases h3 : v = 3
    · exact cw12_b hS hB hi hX1 h21b hv4 hFb rfl h3
    · cases hpv : px_sum b n false 8 (nx b n s) l with
      | inl x => exact cw12_x hS hB hi hX1 h21b hv4 hFb rfl h3 hpv
      | inr q => obtain ⟨s4, l4, g⟩ := q; rw [hpv] at hg; exact cw12_s hS hB hi hX1 h21b hv4 hFb rfl h3 hpv hg.2.2.2.2
theorem cw {d : Nat} {G : am_G} {I : Nat → Nat → Int} {P : Nat → Nat → Option Nat} (hS : ST G P) {b : Nat → Int} {n : Nat} (hB : TB b n) {s l c i : Nat} (hX : MX I b n false s l c) (h21 : I 208 21 = (i : Int)) : ∃ o, am_call am_B am_M (d + 9) 223 [.inr (.inr (some 208))] (G, I, P) = some o ∧ QK G P b n false 218 ML I c i (if i < 12 then px_cl b n false s l else .inl s) o := by
  by_cases hf : vrb false (tk b n s) = -1 ∨ 12 ≤ i
  · exact cw_f hS hB hX h21 hf
  · have h0 := ooI_rng (t := tk b n s) HWs 0
    have hve : vrb false (tk b n s) = ooI HWs 0 (tk b n s) := rfl
    exact cw_g hS hB hX h21 (v := (vrb false (tk b n s)).toNat) (by omega) (by omega)
theorem c_begin {d : Nat} {G : am_G} {I : Nat → Nat → Int} {P : Nat → Nat → Option Nat} (hS : ST G P) {b : Nat → Int} {n : Nat} (hB : TB b n) (hn : I 208 13 = (n : Int)) (hb : ∀ k, k < n → I 217 k = b k) : ∃ I1, am_call am_B am_M (d + 3) 199 [(.inr (.inr (some 208)))] (G, I, P) = some (none, (G, I1, P)) ∧ (MK I1 b n (sk b n 0) ∧ I1 208 19 = 0 ∧ I1 208 18 = -1 ∧ (∀ q k, ¬ (q = 208 ∧ 14 ≤ k ∧ k ≤ 19) → I1 q k = I q k)) := by
  have w : am_ex (am_call am_B am_M (d + 2)) (am_B 199) (am_B 199 0) [some (.inr (.inr (some 208)))] [] (G, I, P) (fun o => ∃ I1, o = (none, (G, I1, P)) ∧ (MK I1 b n (sk b n 0) ∧ I1 208 19 = 0 ∧ I1 208 18 = -1 ∧ (∀ q k, ¬ (q = 208 ∧ 14 ≤ k ∧ k ≤ 19) → I1 q k = I q k))) := by
    refine (ex_6_0 (ex_0 (ix_42i (sh_208 hS) (ex_6_0 (ex_0 (ix_42z (sh_208 hS) (by decide) (ex_6_0 (ex_0 (ix_42i (sh_208 hS) (ex_6_0 ?_))))))))))
    obtain ⟨J1, e1, h14, h15, h16, h17, f1⟩ := c_nextP (d := d) (I := (am_u2 (am_u2 (am_u2 I 208 15 0) 208 19 0) 208 18 (-1))) (p := 0) hS hB ((u2_k (by decide)).trans ((u2_k (by decide)).trans ((u2_k (by decide)).trans hn))) ((u2_k (by decide)).trans ((u2_k (by decide)).trans u2_e)) (Nat.zero_le _) (fun k hk => (u2_q (by decide)).trans ((u2_q (by decide)).trans ((u2_q (by decide)).trans (hb k hk))))
    refine (ix_46 (S' := []) rfl (sh_208 hS) e1 rfl rfl ?_)
    exact ex_56 ⟨_, rfl, ⟨(f1 _ _ (by decide)).trans ((u2_k (by decide)).trans ((u2_k (by decide)).trans ((u2_k (by decide)).trans hn))), h14, h15, h16, h17, fun k hk => (f1 _ _ (by omega)).trans ((u2_q (by decide)).trans ((u2_q (by decide)).trans ((u2_q (by decide)).trans (hb k hk))))⟩, (f1 _ _ (by decide)).trans ((u2_k (by decide)).trans u2_e), (f1 _ _ (by decide)).trans u2_e, fun q k h => (f1 q k (by omega)).trans ((u2_o (by omega)).trans ((u2_o (by omega)).trans (u2_o (by omega))))⟩
  obtain ⟨o, e, I1, rfl, h⟩ := am_doQ (as := [(.inr (.inr (some 208)))]) (Nat.le_of_ble_eq_true rfl) rfl w
  exact ⟨I1, e, h⟩
theorem c_beginText {d : Nat} {G : am_G} {I : Nat → Nat → Int} {P : Nat → Nat → Option Nat} (hS : ST G P) (hK : KM I) {b : Nat → Int} {n : Nat} (hB : TB b n) {od : Bool} (hn : I 208 13 = (n : Int)) (hb : ∀ k, k < n → I 217 k = b k) : ∃ I1, am_call am_B am_M (d + 4) 221 [(.inr (.inr (some 208))), (.inl (if od = true then (1 : Int) else 0))] (G, I, P) = some (none, (G, I1, P)) ∧ (MX I1 b n od (sk b n 0) 0 0 ∧ I1 208 21 = 0 ∧ MLF I I1) := by
  have w : am_ex (am_call am_B am_M (d + 3)) (am_B 221) (am_B 221 0) [some (.inr (.inr (some 208))), some (.inl (if od = true then (1 : Int) else 0))] [] (G, I, P) (fun o => ∃ I1, o = (none, (G, I1, P)) ∧ (MX I1 b n od (sk b n 0) 0 0 ∧ I1 208 21 = 0 ∧ MLF I I1)) := by
    refine (ex_6_0 (ex_4_1 (ix_42z (sh_208 hS) (by cases od <;> decide) (ex_6_0 ?_))))
    obtain ⟨J1, e1, m1, b1, x1, f1⟩ := c_begin (d := d) (I := (am_u2 I 208 20 (if od = true then (1 : Int) else 0))) hS hB ((u2_k (by decide)).trans hn) (fun k hk => (u2_q (by decide)).trans (hb k hk))
    refine (ix_46 (S' := []) rfl (sh_208 hS) e1 rfl rfl (ex_6_0 (ex_0 (ix_42i (sh_208 hS) (ex_6_0 (ex_0 (ix_42i (sh_208 hS) (ex_6_0 (ex_0 (ix_42i (sh_208 hS) ?_))))))))))
    exact ex_56 ⟨_, rfl, ⟨MK_fr m1 (fun q k hq => (u2_o (by omega)).trans ((u2_o (by omega)).trans (u2_o (by omega)))), (sk_b (Nat.zero_le _)).2, by decide, ⟨(u2_k (by decide)).trans ((u2_k (by decide)).trans ((u2_k (by decide)).trans b1)), (u2_k (by decide)).trans ((u2_k (by decide)).trans ((u2_k (by decide)).trans x1))⟩, (u2_k (by decide)).trans ((u2_k (by decide)).trans ((u2_k (by decide)).trans ((f1 _ _ (by decide)).trans u2_e))), u2_e, (u2_k (by decide)).trans u2_e, Nat.zero_le _, KM_fr hK (fun q k hq => (u2_q (by omega)).trans ((u2_q (by omega)).trans ((u2_q (by omega)).trans ((f1 _ _ (by omega)).trans (u2_q (by omega))))))⟩, (u2_k (by decide)).trans ((u2_k (by decide)).trans u2_e), fun q k a b c => (u2_o (by omega)).trans ((u2_o (by omega)).trans ((u2_o (by omega)).trans ((f1 q k (by omega)).trans (u2_o (by omega)))))⟩
  obtain ⟨o, e, I1, rfl, h⟩ := am_doQ (as := [(.inr (.inr (some 208))), (.inl (if od = true then (1 : Int) else 0))]) (Nat.le_of_ble_eq_true rfl) rfl w
  exact ⟨I1, e, h⟩
theorem c_end_b {d : Nat} {G : am_G} {I : Nat → Nat → Int} {P : Nat → Nat → Option Nat} (hS : ST G P) (h19 : I 208 19 = 1) : am_call am_B am_M (d + 4) 222 [(.inr (.inr (some 208)))] (G, I, P) = some (none, (G, (am_u2 (am_u2 I 208 20 0) 208 13 0), P)) := by
  refine am_doL (L := [some (.inr (.inr (some 208)))]) (Nat.le_of_ble_eq_true rfl) rfl ?_
  refine (ex_6_0 (ix_41i (v := 1) (sh_208 hS) h19 (ex_if1 (fun _ => ?_) (fun hc => by exfalso; revert hc; decide))))
  refine (ex_6_0 (ex_0 (ix_42z (sh_208 hS) (by decide) (ex_6_0 (ex_0 (ix_42i (sh_208 hS) ?_))))))
  exact ex_56 rfl
theorem c_end_o {d : Nat} {G : am_G} {I : Nat → Nat → Int} {P : Nat → Nat → Option Nat} (hS : ST G P) {b : Nat → Int} {n : Nat} (hB : TB b n) {od : Bool} {s l c : Nat} (hX : MX I b n od s l c) (he : s = n) : am_call am_B am_M (d + 4) 222 [(.inr (.inr (some 208)))] (G, I, P) = some (none, (G, (am_u2 (am_u2 I 208 20 0) 208 13 0), P)) := by
  refine am_doL (L := [some (.inr (.inr (some 208)))]) (Nat.le_of_ble_eq_true rfl) rfl ?_
  refine (ex_6_0 (ix_41i (v := 0) (sh_208 hS) (MX_b hX) (ex_if1 (fun hc => by exfalso; revert hc; decide) (fun _ => ?_))))
  refine (ex_6_0 (ix_41i (v := 0) (sh_208 hS) ((MX_M hX).2.2.2.1.trans ((end_iff (MX_s hX)).mpr he)) (ex_if0 (fun _ => ?_) (fun hc => by exfalso; revert hc; decide))))
  refine (ex_6_0 (ex_0 (ix_42z (sh_208 hS) (by decide) (ex_6_0 (ex_0 (ix_42i (sh_208 hS) ?_))))))
  exact ex_56 rfl
theorem c_end_f {d : Nat} {G : am_G} {I : Nat → Nat → Int} {P : Nat → Nat → Option Nat} (hS : ST G P) {b : Nat → Int} {n : Nat} (hB : TB b n) {od : Bool} {s l c : Nat} (hX : MX I b n od s l c) (he : ¬ s = n) : am_call am_B am_M (d + 4) 222 [(.inr (.inr (some 208)))] (G, I, P) = some (none, (G, (am_u2 (am_u2 (am_u2 (am_u2 I 208 19 1) 208 18 (s : Int)) 208 20 0) 208 13 0), P)) := by
  refine am_doL (L := [some (.inr (.inr (some 208)))]) (Nat.le_of_ble_eq_true rfl) rfl ?_
  refine (ex_6_0 (ix_41i (v := 0) (sh_208 hS) (MX_b hX) (ex_if1 (fun hc => by exfalso; revert hc; decide) (fun _ => ?_))))
  refine (ex_6_0 (ix_41i (v := (ms b n s)) (sh_208 hS) (MX_M hX).2.2.2.1 ?_))
  refine ex_if0 (fun hc11 => by exact absurd ((end_iff (MX_s hX)).mp hc11) he) (fun hc11 => ?_)
  refine (ex_6_0 (ex_0 (ix_46 (S' := []) rfl (sh_208 hS) (c_must_f hS (MX_M hX).2.1 (MX_b hX)) rfl rfl (ex_58 (ex_6_0 (ex_0 (ix_42z (sh_208 hS) (by decide) (ex_6_0 (ex_0 (ix_42i (sh_208 hS) ?_))))))))))
  exact ex_56 rfl
/-- what comes of reading a text -/
def PO (F : (Nat → Nat → Int) → Nat → Nat → Oc → Prop) (I J : Nat → Nat → Int) (r : Nat ⊕ (Nat × (Nat → Oc))) : Prop := J 208 13 = 0 ∧ J 208 20 = 0 ∧ MLF I J ∧ (match r with
  | .inl x => J 208 19 = 1 ∧ J 208 18 = (x : Int)
  | .inr (m, cl) => J 208 19 = 0 ∧ J 208 18 = -1 ∧ J 208 21 = (m : Int) ∧ m ≤ 12 ∧ ∃ c : Nat, J 208 23 = (c : Int) ∧ c ≤ 400 ∧ ∀ j, j < m → F J j c (cl j))
/-- law(): the text is read; behind its end -/
def zW (d : Nat) (G : am_G) (P : Nat → Nat → Option Nat) (Q : am_O → Prop) (J : Nat → Nat → Int) : Prop := am_ex (am_call am_B am_M (d + 9)) (am_B 224) ((am_B 224 6).drop 2) [some (.inr (.inr (some 208))), none, none] [] (G, J, P) Q
theorem zW_b {d : Nat} {G : am_G} {P : Nat → Nat → Option Nat} {Q : am_O → Prop} {I J : Nat → Nat → Int} (hS : ST G P) {x : Nat} (h19 : J 208 19 = 1) (h18 : J 208 18 = (x : Int)) (hF : MLF I J) (hk : ∀ K, PO ML I K (.inl x) → zW d G P Q K) : am_ex (am_call am_B am_M (d + 9)) (am_B 224) (am_B 224 6) [some (.inr (.inr (some 208))), none, none] [] (G, J, P) Q := by
  refine ex_6_0 (ix_46 (S' := []) rfl (sh_208 hS) (c_end_b (d := d + 5) hS h19) rfl rfl ?_)
  exact hk _ ⟨u2_e, (u2_k (by decide)).trans u2_e, fun q k a b c => (u2_o (by omega)).trans ((u2_o (by omega)).trans (hF q k a b c)), (u2_k (by decide)).trans ((u2_k (by decide)).trans h19), (u2_k (by decide)).trans ((u2_k (by decide)).trans h18)⟩
theorem zW_f {d : Nat} {G : am_G} {P : Nat → Nat → Option Nat} {Q : am_O → Prop} {I J : Nat → Nat → Int} (hS : ST G P) {b : Nat → Int} {n : Nat} (hB : TB b n) {od : Bool} {s l c : Nat} (hX : MX J b n od s l c) (he : ¬ s = n) (hF : MLF I J) (hk : ∀ K, PO ML I K (.inl s) → zW d G P Q K) : am_ex (am_call am_B am_M (d + 9)) (am_B 224) (am_B 224 6) [some (.inr (.inr (some 208))), none, none] [] (G, J, P) Q := by
  refine ex_6_0 (ix_46 (S' := []) rfl (sh_208 hS) (c_end_f (d := d + 5) hS hB hX he) rfl rfl ?_)
  exact hk _ ⟨u2_e, (u2_k (by decide)).trans u2_e, fun q k a b c => (u2_o (by omega)).trans ((u2_o (by omega)).trans ((u2_o (by omega)).trans ((u2_o (by omega)).trans (hF q k a b c)))), (u2_k (by decide)).trans ((u2_k (by decide)).trans ((u2_k (by decide)).trans u2_e)), (u2_k (by decide)).trans ((u2_k (by decide)).trans u2_e)⟩
theorem zW_o {d : Nat} {G : am_G} {P : Nat → Nat → Option Nat} {Q : am_O → Prop} {I J : Nat → Nat → Int} (hS : ST G P) {b : Nat → Int} {n : Nat} (hB : TB b n) {s l c m : Nat} {cl : Nat → Oc} (hX : MX J b n false s l c) (he : s = n) (h21 : J 208 21 = (m : Int)) (hm : m ≤ 12) (hC : ∀ j, j < m → ML J j c (cl j)) (hF : MLF I J) (hk : ∀ K, PO ML I K (.inr (m, cl)) → zW d G P Q K) : am_ex (am_call am_B am_M (d + 9)) (am_B 224) (am_B 224 6) [some (.inr (.inr (some 208))), none, none] [] (G, J, P) Q := by
  have hn4 := hB.1
  have hc := MX_c hX
  have hs := MX_s hX
  refine ex_6_0 (ix_46 (S' := []) rfl (sh_208 hS) (c_end_o (d := d + 5) hS hB hX he) rfl rfl ?_)
  exact hk _ ⟨u2_e, (u2_k (by decide)).trans u2_e, fun q k a b c => (u2_o (by omega)).trans ((u2_o (by omega)).trans (hF q k a b c)), (u2_k (by decide)).trans ((u2_k (by decide)).trans (MX_b hX)), (u2_k (by decide)).trans ((u2_k (by decide)).trans (MX_18 hX)), (u2_k (by decide)).trans ((u2_k (by decide)).trans h21), hm, c, (u2_k (by decide)).trans ((u2_k (by decide)).trans (MX_23 hX)), by omega, fun j hj => ML_mono (hC j hj) (fun k _ _ => (u2_q (by decide)).trans (u2_q (by decide))) (fun k _ => ⟨(u2_q (by decide)).trans (u2_q (by decide)), (u2_q (by decide)).trans (u2_q (by decide))⟩) (Nat.le_refl _)⟩
theorem zW_l {d : Nat} {G : am_G} {P : Nat → Nat → Option Nat} {Q : am_O → Prop} {I : Nat → Nat → Int} (hS : ST G P) {b : Nat → Int} {n : Nat} (hB : TB b n) : ∀ (k m : Nat) (J : Nat → Nat → Int) (s l c : Nat) (cl : Nat → Oc), m + k = 12 → MX J b n false s l c → J 208 21 = (m : Int) → (∀ j, j < m → ML J j c (cl j)) → MLF I J → (∀ K, PO ML I K (if s = n then .inr (m, cl) else if tk b n s = [59] then px_cls b n false k (nx b n s) l m cl else .inl s) → zW d G P Q K) → am_ex (am_call am_B am_M (d + 9)) (am_B 224) (am_B 224 3) [some (.inr (.inr (some 208))), none, none] [] (G, J, P) Q := by
  intro k
  induction k with
  | zero =>
    intro m J s l c cl hm hX h21 hC hF hk
    have hs := MX_s hX
    by_cases he : s = n
    · rw [if_pos he] at hk
      refine ex_6_0 (ix_41i (v := 0) (sh_208 hS) (MX_b hX) (ex_if1 (fun h => absurd rfl h) (fun _ => ?_)))
      refine ex_6_0 (ex_0 (ix_46 (S' := [.inl 0]) rfl (sh_208 hS) (c_isS_f hS hB (MX_M hX) hs (v := 59) (by decide) (by rw [tk_end (by omega)]; decide)) rfl rfl (ex_if0 (fun _ => ?_) (fun h => absurd rfl h))))
      exact zW_o hS hB hX he h21 (by omega) hC hF hk
    · rw [if_neg he] at hk
      by_cases hsc : tk b n s = [59]
      · rw [if_pos hsc] at hk
        have hlt := tk_lt hs hsc
        obtain ⟨J1, e1, m1, f1⟩ := c_next (d := d + 7) hS hB (MX_M hX) hs
        have hX1 := MX_next hX hlt m1 f1
        obtain ⟨o_, eo, qo⟩ := cw (d := d) (i := m) hS hB hX1 ((f1 _ _ (by decide)).trans h21)
        rw [if_neg (by omega)] at qo
        obtain ⟨J2, rfl, b2, x2, f2⟩ := qo
        refine ex_6_0 (ix_41i (v := 0) (sh_208 hS) (MX_b hX) (ex_if1 (fun h => absurd rfl h) (fun _ => ?_)))
        refine ex_6_0 (ex_0 (ix_46 (S' := [.inl 1]) rfl (sh_208 hS) (c_isS_t hS hB (MX_M hX) hs (v := 59) (by decide) hsc) rfl rfl (ex_if0 (fun h => by exfalso; revert h; decide) (fun _ => ?_))))
        refine ex_6_0 (ix_46 (S' := []) rfl (sh_208 hS) e1 rfl rfl (ex_6_0 (ix_46 (S' := []) rfl (sh_208 hS) eo rfl rfl (ex_28 ?_))))
        refine ex_6_0 (ix_41i (v := 1) (sh_208 hS) b2 (ex_if1 (fun _ => ?_) (fun h => by exfalso; revert h; decide)))
        exact zW_b hS b2 x2 (MLF_trans hF (MLF_trans (MLF_MFr (MFr_MKF (c := 0) f1)) f2)) hk
      · rw [if_neg hsc] at hk
        refine ex_6_0 (ix_41i (v := 0) (sh_208 hS) (MX_b hX) (ex_if1 (fun h => absurd rfl h) (fun _ => ?_)))
        refine ex_6_0 (ex_0 (ix_46 (S' := [.inl 0]) rfl (sh_208 hS) (c_isS_f hS hB (MX_M hX) hs (v := 59) (by decide) hsc) rfl rfl (ex_if0 (fun _ => ?_) (fun h => absurd rfl h))))
        exact zW_f hS hB hX he hF hk
  | succ k ih =>
    intro m J s l c cl hm hX h21 hC hF hk
    have hs := MX_s hX
    by_cases he : s = n
    · rw [if_pos he] at hk
      refine ex_6_0 (ix_41i (v := 0) (sh_208 hS) (MX_b hX) (ex_if1 (fun h => absurd rfl h) (fun _ => ?_)))
      refine ex_6_0 (ex_0 (ix_46 (S' := [.inl 0]) rfl (sh_208 hS) (c_isS_f hS hB (MX_M hX) hs (v := 59) (by decide) (by rw [tk_end (by omega)]; decide)) rfl rfl (ex_if0 (fun _ => ?_) (fun h => absurd rfl h))))
      exact zW_o hS hB hX he h21 (by omega) hC hF hk
    · rw [if_neg he] at hk
      by_cases hsc : tk b n s = [59]
      · rw [if_pos hsc] at hk
        have hlt := tk_lt hs hsc
        obtain ⟨J1, e1, m1, f1⟩ := c_next (d := d + 7) hS hB (MX_M hX) hs
        have hX1 := MX_next hX hlt m1 f1
        obtain ⟨o_, eo, qo⟩ := cw (d := d) (i := m) hS hB hX1 ((f1 _ _ (by decide)).trans h21)
        rw [if_pos (by omega)] at qo
        refine ex_6_0 (ix_41i (v := 0) (sh_208 hS) (MX_b hX) (ex_if1 (fun h => absurd rfl h) (fun _ => ?_)))
        refine ex_6_0 (ex_0 (ix_46 (S' := [.inl 1]) rfl (sh_208 hS) (c_isS_t hS hB (MX_M hX) hs (v := 59) (by decide) hsc) rfl rfl (ex_if0 (fun h => by exfalso; revert h; decide) (fun _ => ?_))))
        cases hp : px_cl b n false (nx b n s) l with
        | inl x =>
          rw [hp] at qo
          obtain ⟨J2, rfl, b2, x2, f2⟩ := qo
          refine ex_6_0 (ix_46 (S' := []) rfl (sh_208 hS) e1 rfl rfl (ex_6_0 (ix_46 (S' := []) rfl (sh_208 hS) eo rfl rfl (ex_28 ?_))))
          refine ex_6_0 (ix_41i (v := 1) (sh_208 hS) b2 (ex_if1 (fun _ => ?_) (fun h => by exfalso; revert h; decide)))
          rw [show px_cls b n false (k + 1) (nx b n s) l m cl = .inl x from by simp only [px_cls, hp]] at hk
          exact zW_b hS b2 x2 (MLF_trans hF (MLF_trans (MLF_MFr (MFr_MKF (c := 0) f1)) f2)) hk
        | inr q =>
          obtain ⟨s2, l2, oc⟩ := q
          rw [hp] at qo
          obtain ⟨J2, c2, rfl, hX2, hc2, h212, hC2, f2⟩ := qo
          refine ex_6_0 (ix_46 (S' := []) rfl (sh_208 hS) e1 rfl rfl (ex_6_0 (ix_46 (S' := []) rfl (sh_208 hS) eo rfl rfl (ex_28 ?_))))
          rw [show px_cls b n false (k + 1) (nx b n s) l m cl = (if s2 = n then .inr (m + 1, am_u1 cl m oc) else if tk b n s2 = [59] then px_cls b n false k (nx b n s2) l2 (m + 1) (am_u1 cl m oc) else .inl s2) from by simp only [px_cls, hp]] at hk
          refine ih (m + 1) J2 s2 l2 c2 (am_u1 cl m oc) (by omega) hX2 h212 (fun j hj => ?_) (MLF_trans hF (MLF_trans (MLF_MFr (MFr_MKF (c := 0) f1)) (MLF_MCF f2 (Or.inl rfl)))) hk
          by_cases e : j = m
          · rw [e, am_u1, if_pos rfl]; exact hC2
          · rw [am_u1, if_neg e]
            exact ML_mono (hC j (by omega)) (fun k' a1 a2 => (f2 218 k' (by omega) (by omega) (by omega) (by omega)).trans (f1 _ _ (by omega))) (fun k' hk' => ⟨(f2 219 k' (by omega) (by omega) (by omega) (by omega)).trans (f1 _ _ (by omega)), (f2 220 k' (by omega) (by omega) (by omega) (by omega)).trans (f1 _ _ (by omega))⟩) hc2
      · rw [if_neg hsc] at hk
        refine ex_6_0 (ix_41i (v := 0) (sh_208 hS) (MX_b hX) (ex_if1 (fun h => absurd rfl h) (fun _ => ?_)))
        refine ex_6_0 (ex_0 (ix_46 (S' := [.inl 0]) rfl (sh_208 hS) (c_isS_f hS hB (MX_M hX) hs (v := 59) (by decide) hsc) rfl rfl (ex_if0 (fun _ => ?_) (fun h => absurd rfl h))))
        exact zW_f hS hB hX he hF hk
