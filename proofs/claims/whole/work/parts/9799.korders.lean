/-! ===== the class: orders() ===== -/
theorem bnd_inr {α β : Type} {r : Nat ⊕ α} {k : α → Nat ⊕ β} {y : β} (h : bnd r k = .inr y) : ∃ a, r = .inr a ∧ k a = .inr y := by
  cases r with
  | inl x => simp only [bnd] at h; cases h
  | inr a => exact ⟨a, rfl, h⟩
theorem px_cl_ok {b : Nat → Int} {n s l s' l' : Nat} {c : Oc} (h : px_cl b n true s l = .inr (s', l', c)) : OCok c := by
  unfold px_cl at h
  split at h
  · cases h
  · rename_i hv
    have hv4 : (vrb true (tk b n s)).toNat < 4 := by
      have hr : vrb true (tk b n s) = -1 ∨ (0 ≤ vrb true (tk b n s) ∧ vrb true (tk b n s) < 0 + ((4 : Nat) : Int)) := by
        unfold vrb
        rw [if_pos rfl]
        exact ooI_rng _ 0
      omega
    generalize (vrb true (tk b n s)).toNat = v at h hv4
    obtain ⟨a, ha, h⟩ := bnd_inr h
    obtain ⟨e, he, h⟩ := bnd_inr h
    obtain ⟨t, ht, h⟩ := bnd_inr h
    cases h
    unfold stO at he
    rw [if_pos rfl] at he
    obtain ⟨e2, he2, he⟩ := bnd_inr he
    obtain ⟨e3, he3, he⟩ := bnd_inr he
    cases he
    refine ⟨hv4, ?_, ?_, ?_⟩
    · show a.2.2 = none ↔ v = 3
      unfold st1 at ha
      split at ha
      · rename_i q; cases ha; exact ⟨fun _ => q, fun _ => rfl⟩
      · rename_i q
        obtain ⟨g, _, hg⟩ := bnd_inr ha
        cases hg
        exact ⟨fun z => (by cases z), fun z => absurd z q⟩
    · show e2.2.2 = none ↔ ¬ v = 0
      unfold st2 at he2
      split at he2
      · rename_i q
        split at he2
        · obtain ⟨g, _, hg⟩ := bnd_inr he2
          cases hg
          exact ⟨fun z => (by cases z), fun z => absurd q z⟩
        · cases he2
      · rename_i q; cases he2; exact ⟨fun _ => q, fun _ => rfl⟩
    · show 1 ≤ e3.2 ∧ e3.2 ≤ 20
      unfold st3 at he3
      split at he3
      · split at he3
        · rename_i q
          cases he3
          show 1 ≤ (num b n (nx b n e2.1)).toNat ∧ (num b n (nx b n e2.1)).toNat ≤ 20
          omega
        · cases he3
      · cases he3; exact (show (1 : Nat) ≤ 1 ∧ (1 : Nat) ≤ 20 from ⟨by decide, by decide⟩)
theorem px_cls_ok {b : Nat → Int} {n : Nat} : ∀ (k s l i : Nat) (cl : Nat → Oc) (m : Nat) (c : Nat → Oc), i + k = 12 → (∀ j, j < i → OCok (cl j)) → px_cls b n true k s l i cl = .inr (m, c) → m ≤ 12 ∧ ∀ j, j < m → OCok (c j)
  | 0, s, l, i, cl, m, c, hi, hc, h => by simp only [px_cls] at h; cases h
  | k + 1, s, l, i, cl, m, c, hi, hc, h => by
    simp only [px_cls] at h
    cases hp : px_cl b n true s l with
    | inl x => rw [hp] at h; cases h
    | inr q =>
      obtain ⟨s', l', oc⟩ := q
      rw [hp] at h
      have ho := px_cl_ok hp
      have hall : ∀ j, j < i + 1 → OCok (am_u1 cl i oc j) := by
        intro j hj
        by_cases e : j = i
        · rw [e, am_u1, if_pos rfl]; exact ho
        · rw [am_u1, if_neg e]; exact hc j (by omega)
      have h : (if s' = n then .inr (i + 1, am_u1 cl i oc) else if tk b n s' = [59] then px_cls b n true k (nx b n s') l' (i + 1) (am_u1 cl i oc) else .inl s') = (Sum.inr (m, c) : Nat ⊕ (Nat × (Nat → Oc))) := h
      by_cases e1 : s' = n
      · rw [if_pos e1] at h
        cases h
        exact ⟨by omega, hall⟩
      · rw [if_neg e1] at h
        by_cases e2 : tk b n s' = [59]
        · rw [if_pos e2] at h
          exact px_cls_ok k _ _ (i + 1) _ m c (by omega) hall h
        · rw [if_neg e2] at h; cases h
theorem px_text_ok {b : Nat → Int} {n m : Nat} {c : Nat → Oc} (h : px_text b n true = .inr (m, c)) : m ≤ 12 ∧ ∀ j, j < m → OCok (c j) := px_cls_ok 12 _ _ 0 _ m c rfl (fun j hj => absurd hj (by omega)) h
/-- what orders() leaves alone -/
def KOF (kk : Nat) (I J : Nat → Nat → Int) : Prop := ∀ q k, ¬ (65 ≤ q ∧ q ≤ 80) → ¬ (84 ≤ q ∧ q ≤ 87) → ¬ q = 89 → ¬ q = 90 → ¬ (93 ≤ q ∧ q ≤ 108) → ¬ (110 ≤ q ∧ q ≤ 115) → ¬ (161 ≤ q ∧ q ≤ 169) → ¬ (q = 92 ∧ (k = 5 ∨ k = 6 ∨ k = 7)) → ¬ (q = 64 ∧ (k = 13 ∨ k = 14 ∨ k = 16)) → ¬ (q = 173 ∧ k = kk) → J q k = I q k
def KOP (P P1 : Nat → Nat → Option Nat) : Prop := (∀ j, j < 6 → P1 81 j = P 81 j) ∧ (∀ q k, ¬ q = 81 → ¬ q = 109 → ¬ (q = 169 ∧ k = 0) → P1 q k = P q k)
def QKo (G : am_G) (I : Nat → Nat → Int) (P : Nat → Nat → Option Nat) (ρ : Nat → Int) (lg : List De) (n : Nat) (cl : Nat → Cl) (r : Nat ⊕ (Nat × (Nat → Oc))) (o : am_O) : Prop := match r with
  | .inl x => ∃ I1 P1, o = (some (.inl (-6)), (G, I1, P1)) ∧ ST G P1 ∧ I1 64 14 = (x : Int) ∧ I1 64 13 = 0 ∧ I1 64 16 = -6 ∧ I1 173 6 = I 173 6 + 1 ∧ I1 92 7 = -1 ∧ CC I1 65 ρ ∧ CLg I1 lg ∧ KOP P P1 ∧ KOF 6 I I1
  | .inr (m, c) => (match oW n cl c m 0 ((ρ, lg), 0, -1) with
    | .inl i => ∃ I1 P1, o = (some (.inl (-3)), (G, I1, P1)) ∧ ST G P1 ∧ I1 64 14 = -1 ∧ I1 64 13 = 0 ∧ I1 64 16 = -3 ∧ I1 173 3 = I 173 3 + 1 ∧ I1 92 7 = (i : Int) ∧ CC I1 65 ρ ∧ CLg I1 lg ∧ KOP P P1 ∧ KOF 3 I I1
    | .inr z => ∃ I1 P1, o = (some (.inl z.2.1), (G, I1, P1)) ∧ ST G P1 ∧ I1 64 14 = -1 ∧ I1 64 13 = 0 ∧ I1 64 16 = 0 ∧ I1 92 7 = -1 ∧ CC I1 65 z.1.1 ∧ CLg I1 z.1.2 ∧ OzI ρ 240 z ∧ KOP P P1 ∧ KOF 0 I I1)
theorem k_orders_x {d : Nat} {G : am_G} {I : Nat → Nat → Int} {P : Nat → Nat → Option Nat} (hS : ST G P) (hK : KS I) {b : Nat → Int} {n : Nat} (hB : TB b n) (h13 : I 64 13 = (n : Int)) (hb : ∀ k, k < n → I 171 k = sb (b k)) {ρ : Nat → Int} {lg : List De} {n2 : Nat} {cl2 : Nat → Cl} (hE : CE G I P 65 ρ n2 cl2) (hL : CLg I lg) (hW : WR ρ lg) (hN : TN G P 65) (hBN : BarN n2 cl2) (hR3 : 0 ≤ I 173 3 ∧ I 173 3 ≤ 1000000) (hR6 : 0 ≤ I 173 6 ∧ I 173 6 ≤ 1000000) {x : Nat} (hp : px_text b n true = .inl x) : ∃ o, am_call am_B am_M (d + 40) 120 [(.inr (.inr (some 64)))] (G, I, P) = some o ∧ (QKo G I P ρ lg n2 cl2 (px_text b n true)) o := by
  refine am_doQ (L := [some (.inr (.inr (some 64)))]) (Nat.le_of_ble_eq_true rfl) rfl ?_
  refine (ex_6_0 (ix_41r (sh_64 hS) (pt_64_6 hS) (ex_0 (ix_42i (sh_92 hS) (ex_6_0 (ex_6_0 (ix_41r (sh_64 hS) (pt_64_9 hS) (ex_6_0 (ix_41r (sh_64 hS) (pt_64_10 hS) (ex_6_0 (ix_41i (v := (n : Int)) (sh_64 hS) ((u2_q (by decide)).trans h13) (ex_0 ?_))))))))))))
  obtain ⟨o_, eo, qo⟩ := k_faultOf (d := d + 1) (I := (am_u2 I 92 7 (-1))) hS (KS_fr hK (fun q k hq => u2_q (by omega))) hB (fun k hk => (u2_q (by decide)).trans (hb k hk)) true
  rw [hp] at qo
  obtain ⟨I2, rfl, f2⟩ := qo
  have hS2 := ST_tok (v := some 171) hS
  refine (ix_46 (S' := [(.inl (x : Int)), (.inr (.inr (some 64)))]) rfl (sh_161 hS) eo rfl rfl (ix_42i (sh_64 hS2) (ex_6_0 (ex_0 (ix_42i (sh_64 hS2) (ex_6_0 (ix_41i (v := (x : Int)) (sh_64 hS2) ((u2_k (by decide)).trans u2_e) (ex_0 ?_))))))))
  refine ex_ic0 (fun hc38 => by exfalso; omega) (fun hc38 => ?_)
  refine (ex_6_0 (ex_0 ?_))
  have h6 : I2 173 6 = I 173 6 := (f2 _ _ (by decide)).trans (u2_q (by decide))
  refine (ix_46 (S' := [(.inl (-6))]) rfl (sh_64 hS2) (k_refuse_n hS2 (k := 6) (by decide) (by decide) ((u2_q (by decide)).trans ((u2_q (by decide)).trans h6)) hR6) rfl rfl ?_)
  exact ex_53 (by rw [hp]; exact ⟨_, _, rfl, hS2, (u2_k (by decide)).trans ((u2_q (by decide)).trans ((u2_k (by decide)).trans u2_e)), (u2_k (by decide)).trans ((u2_q (by decide)).trans u2_e), u2_e, (u2_q (by decide)).trans u2_e, (u2_q (by decide)).trans ((u2_q (by decide)).trans ((u2_q (by decide)).trans ((u2_q (by decide)).trans ((f2 _ _ (by decide)).trans u2_e)))), CC_fr hE.1 (fun q k a b _ => (u2_o (by omega)).trans ((u2_o (by omega)).trans ((u2_o (by omega)).trans ((u2_o (by omega)).trans ((f2 q k (by omega)).trans (u2_o (by omega))))))), CLg_fr hL (fun q k a b => (u2_o (by omega)).trans ((u2_o (by omega)).trans ((u2_o (by omega)).trans ((u2_o (by omega)).trans ((f2 q k (by omega)).trans (u2_o (by omega))))))), ⟨fun j _ => u2_q (by decide), fun q k _ _ h => u2_o h⟩, fun q k a1 a2 a3 a4 a5 a6 a7 a8 a9 a0 => (u2_o (by omega)).trans ((u2_o (by omega)).trans ((u2_o (by omega)).trans ((u2_o (by omega)).trans ((f2 q k (by omega)).trans (u2_o (by omega))))))⟩)
theorem k_orders_s {d : Nat} {G : am_G} {I : Nat → Nat → Int} {P : Nat → Nat → Option Nat} (hS : ST G P) (hK : KS I) {b : Nat → Int} {n : Nat} (hB : TB b n) (h13 : I 64 13 = (n : Int)) (hb : ∀ k, k < n → I 171 k = sb (b k)) {ρ : Nat → Int} {lg : List De} {n2 : Nat} {cl2 : Nat → Cl} (hE : CE G I P 65 ρ n2 cl2) (hL : CLg I lg) (hW : WR ρ lg) (hN : TN G P 65) (hBN : BarN n2 cl2) (hR3 : 0 ≤ I 173 3 ∧ I 173 3 ≤ 1000000) (hR6 : 0 ≤ I 173 6 ∧ I 173 6 ≤ 1000000) {m : Nat} {c : Nat → Oc} (hp : px_text b n true = .inr (m, c)) {ir : Nat} (ho : oW n2 cl2 c m 0 ((ρ, lg), 0, -1) = .inl ir) : ∃ o, am_call am_B am_M (d + 40) 120 [(.inr (.inr (some 64)))] (G, I, P) = some o ∧ (QKo G I P ρ lg n2 cl2 (px_text b n true)) o := by
  refine am_doQ (L := [some (.inr (.inr (some 64)))]) (Nat.le_of_ble_eq_true rfl) rfl ?_
  refine (ex_6_0 (ix_41r (sh_64 hS) (pt_64_6 hS) (ex_0 (ix_42i (sh_92 hS) (ex_6_0 (ex_6_0 (ix_41r (sh_64 hS) (pt_64_9 hS) (ex_6_0 (ix_41r (sh_64 hS) (pt_64_10 hS) (ex_6_0 (ix_41i (v := (n : Int)) (sh_64 hS) ((u2_q (by decide)).trans h13) (ex_0 ?_))))))))))))
  obtain ⟨o_, eo, qo⟩ := k_faultOf (d := d + 1) (I := (am_u2 I 92 7 (-1))) hS (KS_fr hK (fun q k hq => u2_q (by omega))) hB (fun k hk => (u2_q (by decide)).trans (hb k hk)) true
  rw [hp] at qo
  obtain ⟨I2, z, rfl, h5, hm, h7, hz, hc, hD, f2⟩ := qo
  have hS2 := ST_tok (v := some 171) hS
  refine (ix_46 (S' := [(.inl (-1)), (.inr (.inr (some 64)))]) rfl (sh_161 hS) eo rfl rfl (ix_42i (sh_64 hS) (ex_6_0 (ex_0 (ix_42i (sh_64 hS) (ex_6_0 (ix_41i (v := (-1)) (sh_64 hS) ((u2_k (by decide)).trans u2_e) (ex_0 (ex_ic0 (fun _ => ?_) (fun hc => by exfalso; revert hc; decide))))))))))
  refine (ex_6_0 (ix_41r (sh_64 hS) ((u2_q (by decide)).trans (pt_64_6 hS)) (ex_6_0 (ix_41r (sh_64 hS) ((u2_q (by decide)).trans (pt_64_9 hS)) (ix_41r (sh_161 hS) ((u2_q (by decide)).trans (pt_161_0 hS)) ?_)))))
  have fI : ∀ q k, ¬ (161 ≤ q ∧ q ≤ 169) → ¬ (q = 92 ∧ k = 7) → ¬ (q = 64 ∧ (k = 13 ∨ k = 14)) → (am_u2 (am_u2 I2 64 14 (-1)) 64 13 0) q k = I q k := fun q k a1 a2 a3 => (u2_o (by omega)).trans ((u2_o (by omega)).trans ((f2 q k a1).trans (u2_o (by omega))))
  have hE3 : CE G (am_u2 (am_u2 I2 64 14 (-1)) 64 13 0) (am_u2 P 169 0 (some 171)) 65 ρ n2 cl2 := ⟨CC_fr hE.1 (fun q k a b _ => fI q k (by omega) (by omega) (by omega)), hE.2.1, LWn_cp (b := 65) hE.2.2 (fun q k h => fI q k (by omega) (by omega) (by omega)) (fun q k h => u2_q (by omega)) (fun j hj => u2_q (by decide))⟩
  have hD3 : DRF (am_u2 (am_u2 I2 64 14 (-1)) 64 13 0) m z c := DRF_fr ⟨h5, hm, h7, hz, hc, hD⟩ (fun q k a b => (u2_q (by omega)).trans (u2_q (by omega)))
  have hN3 : TN G (am_u2 P 169 0 (some 171)) 65 := fun k hk => by rw [u2_q (by decide)]; exact hN k hk
  obtain ⟨o2, eo2, qo2⟩ := k_runW (d := d + 31) (I := (am_u2 (am_u2 I2 64 14 (-1)) 64 13 0)) hS2 hE3 (CLg_fr hL (fun q k a b => fI q k (by omega) (by omega) (by omega))) hW hN3 hD3 hBN ((fI _ _ (by decide) (by decide) (by decide)).trans hK.2.1.1) (fun j hj => ((px_text_ok hp).2 j hj).2.2.2.2)
  have h14 : (am_u2 (am_u2 I2 64 14 (-1)) 64 13 0) 64 14 = -1 := (u2_k (by decide)).trans u2_e
  have h130 : (am_u2 (am_u2 I2 64 14 (-1)) 64 13 0) 64 13 = 0 := u2_e
  have h927 : (am_u2 (am_u2 I2 64 14 (-1)) 64 13 0) 92 7 = -1 := (u2_q (by decide)).trans ((u2_q (by decide)).trans ((f2 _ _ (by decide)).trans u2_e))
  generalize (am_u2 (am_u2 I2 64 14 (-1)) 64 13 0) = I3 at *
  rw [ho] at qo2
  obtain ⟨I4, P4, rfl, hS4, ri, r7, rC, rL, r6, rP, fW⟩ := qo2
  refine (ix_46 (S' := [(.inl 0)]) rfl (sh_92 hS) eo2 rfl rfl (ex_if0 (fun _ => ?_) (fun hc => by exfalso; revert hc; decide)))
  refine (ex_6_0 (ex_0 ?_))
  have h3 : I4 173 3 = I 173 3 := (fW _ _ (by decide) (by decide) (by decide) (by decide) (by decide) (by decide) (by decide)).trans (fI _ _ (by decide) (by decide) (by decide))
  refine (ix_46 (S' := [(.inl (-3))]) rfl (sh_64 hS4) (k_refuse_n hS4 (k := 3) (by decide) (by decide) h3 hR3) rfl rfl (ex_58 ?_))
  exact ex_53 (by rw [hp]; show (match oW n2 cl2 c m 0 ((ρ, lg), 0, -1) with | .inl i => _ | .inr z => _); rw [ho]; exact ⟨_, P4, rfl, hS4, (u2_k (by decide)).trans ((u2_q (by decide)).trans ((fW _ _ (by decide) (by decide) (by decide) (by decide) (by decide) (by decide) (by decide) ).trans h14)), (u2_k (by decide)).trans ((u2_q (by decide)).trans ((fW _ _ (by decide) (by decide) (by decide) (by decide) (by decide) (by decide) (by decide) ).trans h130)), u2_e, (u2_q (by decide)).trans u2_e, (u2_q (by decide)).trans ((u2_q (by decide)).trans r7), CC_w65 (CC_w65 rC (by decide)) (by decide), CLg_fr rL (fun q k a b => (u2_q (by omega)).trans (u2_q (by omega))), ⟨fun j hj => (r6 j hj).trans (u2_q (by decide)), fun q k a b e => (rP q k a b).trans (u2_o e)⟩, fun q k a1 a2 a3 a4 a5 a6 a7 a8 a9 a0 => (u2_o (by omega)).trans ((u2_o (by omega)).trans ((fW q k a1 a2 a3 a4 a5 a6 a8).trans (fI q k a7 (by omega) (by omega))))⟩)
theorem k_orders_o {d : Nat} {G : am_G} {I : Nat → Nat → Int} {P : Nat → Nat → Option Nat} (hS : ST G P) (hK : KS I) {b : Nat → Int} {n : Nat} (hB : TB b n) (h13 : I 64 13 = (n : Int)) (hb : ∀ k, k < n → I 171 k = sb (b k)) {ρ : Nat → Int} {lg : List De} {n2 : Nat} {cl2 : Nat → Cl} (hE : CE G I P 65 ρ n2 cl2) (hL : CLg I lg) (hW : WR ρ lg) (hN : TN G P 65) (hBN : BarN n2 cl2) (hR3 : 0 ≤ I 173 3 ∧ I 173 3 ≤ 1000000) (hR6 : 0 ≤ I 173 6 ∧ I 173 6 ≤ 1000000) {m : Nat} {c : Nat → Oc} (hp : px_text b n true = .inr (m, c)) {zr : Od} (ho : oW n2 cl2 c m 0 ((ρ, lg), 0, -1) = .inr zr) : ∃ o, am_call am_B am_M (d + 40) 120 [(.inr (.inr (some 64)))] (G, I, P) = some o ∧ (QKo G I P ρ lg n2 cl2 (px_text b n true)) o := by
  refine am_doQ (L := [some (.inr (.inr (some 64)))]) (Nat.le_of_ble_eq_true rfl) rfl ?_
  refine (ex_6_0 (ix_41r (sh_64 hS) (pt_64_6 hS) (ex_0 (ix_42i (sh_92 hS) (ex_6_0 (ex_6_0 (ix_41r (sh_64 hS) (pt_64_9 hS) (ex_6_0 (ix_41r (sh_64 hS) (pt_64_10 hS) (ex_6_0 (ix_41i (v := (n : Int)) (sh_64 hS) ((u2_q (by decide)).trans h13) (ex_0 ?_))))))))))))
  obtain ⟨o_, eo, qo⟩ := k_faultOf (d := d + 1) (I := (am_u2 I 92 7 (-1))) hS (KS_fr hK (fun q k hq => u2_q (by omega))) hB (fun k hk => (u2_q (by decide)).trans (hb k hk)) true
  rw [hp] at qo
  obtain ⟨I2, z, rfl, h5, hm, h7, hz, hc, hD, f2⟩ := qo
  have hS2 := ST_tok (v := some 171) hS
  refine (ix_46 (S' := [(.inl (-1)), (.inr (.inr (some 64)))]) rfl (sh_161 hS) eo rfl rfl (ix_42i (sh_64 hS) (ex_6_0 (ex_0 (ix_42i (sh_64 hS) (ex_6_0 (ix_41i (v := (-1)) (sh_64 hS) ((u2_k (by decide)).trans u2_e) (ex_0 (ex_ic0 (fun _ => ?_) (fun hc => by exfalso; revert hc; decide))))))))))
  refine (ex_6_0 (ix_41r (sh_64 hS) ((u2_q (by decide)).trans (pt_64_6 hS)) (ex_6_0 (ix_41r (sh_64 hS) ((u2_q (by decide)).trans (pt_64_9 hS)) (ix_41r (sh_161 hS) ((u2_q (by decide)).trans (pt_161_0 hS)) ?_)))))
  have fI : ∀ q k, ¬ (161 ≤ q ∧ q ≤ 169) → ¬ (q = 92 ∧ k = 7) → ¬ (q = 64 ∧ (k = 13 ∨ k = 14)) → (am_u2 (am_u2 I2 64 14 (-1)) 64 13 0) q k = I q k := fun q k a1 a2 a3 => (u2_o (by omega)).trans ((u2_o (by omega)).trans ((f2 q k a1).trans (u2_o (by omega))))
  have hE3 : CE G (am_u2 (am_u2 I2 64 14 (-1)) 64 13 0) (am_u2 P 169 0 (some 171)) 65 ρ n2 cl2 := ⟨CC_fr hE.1 (fun q k a b _ => fI q k (by omega) (by omega) (by omega)), hE.2.1, LWn_cp (b := 65) hE.2.2 (fun q k h => fI q k (by omega) (by omega) (by omega)) (fun q k h => u2_q (by omega)) (fun j hj => u2_q (by decide))⟩
  have hD3 : DRF (am_u2 (am_u2 I2 64 14 (-1)) 64 13 0) m z c := DRF_fr ⟨h5, hm, h7, hz, hc, hD⟩ (fun q k a b => (u2_q (by omega)).trans (u2_q (by omega)))
  have hN3 : TN G (am_u2 P 169 0 (some 171)) 65 := fun k hk => by rw [u2_q (by decide)]; exact hN k hk
  obtain ⟨o2, eo2, qo2⟩ := k_runW (d := d + 31) (I := (am_u2 (am_u2 I2 64 14 (-1)) 64 13 0)) hS2 hE3 (CLg_fr hL (fun q k a b => fI q k (by omega) (by omega) (by omega))) hW hN3 hD3 hBN ((fI _ _ (by decide) (by decide) (by decide)).trans hK.2.1.1) (fun j hj => ((px_text_ok hp).2 j hj).2.2.2.2)
  have h14 : (am_u2 (am_u2 I2 64 14 (-1)) 64 13 0) 64 14 = -1 := (u2_k (by decide)).trans u2_e
  have h130 : (am_u2 (am_u2 I2 64 14 (-1)) 64 13 0) 64 13 = 0 := u2_e
  have h927 : (am_u2 (am_u2 I2 64 14 (-1)) 64 13 0) 92 7 = -1 := (u2_q (by decide)).trans ((u2_q (by decide)).trans ((f2 _ _ (by decide)).trans u2_e))
  generalize (am_u2 (am_u2 I2 64 14 (-1)) 64 13 0) = I3 at *
  rw [ho] at qo2
  obtain ⟨I4, P4, rfl, hS4, r5, r7, rC, rL, rZ, rP, fW⟩ := qo2
  refine (ix_46 (S' := [(.inl 1)]) rfl (sh_92 hS) eo2 rfl rfl (ex_if0 (fun hc => by exfalso; revert hc; decide) (fun _ => ?_)))
  refine (ex_6_0 (ex_6_0 (ix_41r (sh_64 hS4) (pt_64_6 hS4) (ix_41i (v := zr.2.1) (sh_92 hS4) r5 (ix_46 (S' := [(.inl zr.2.1)]) rfl (sh_64 hS4) (k_grant hS4) rfl rfl (ex_28 ?_))))))
  exact ex_53 (by rw [hp]; show (match oW n2 cl2 c m 0 ((ρ, lg), 0, -1) with | .inl i => _ | .inr z => _); rw [ho]; exact ⟨_, P4, rfl, hS4, (u2_k (by decide)).trans ((fW _ _ (by decide) (by decide) (by decide) (by decide) (by decide) (by decide) (by decide) ).trans h14), (u2_k (by decide)).trans ((fW _ _ (by decide) (by decide) (by decide) (by decide) (by decide) (by decide) (by decide) ).trans h130), u2_e, (u2_q (by decide)).trans (r7.trans h927), CC_w65 rC (by decide), CLg_fr rL (fun q k a b => u2_q (by omega)), rZ, ⟨fun j hj => (rP _ _ (by decide)).trans (u2_q (by decide)), fun q k a b e => (rP q k b).trans (u2_o e)⟩, fun q k a1 a2 a3 a4 a5 a6 a7 a8 a9 a0 => (u2_o (by omega)).trans ((fW q k a1 a2 a3 a4 a5 a6 a8).trans (fI q k a7 (by omega) (by omega)))⟩)
theorem k_orders {d : Nat} {G : am_G} {I : Nat → Nat → Int} {P : Nat → Nat → Option Nat} (hS : ST G P) (hK : KS I) {b : Nat → Int} {n : Nat} (hB : TB b n) (h13 : I 64 13 = (n : Int)) (hb : ∀ k, k < n → I 171 k = sb (b k)) {ρ : Nat → Int} {lg : List De} {n2 : Nat} {cl2 : Nat → Cl} (hE : CE G I P 65 ρ n2 cl2) (hL : CLg I lg) (hW : WR ρ lg) (hN : TN G P 65) (hBN : BarN n2 cl2) (hR3 : 0 ≤ I 173 3 ∧ I 173 3 ≤ 1000000) (hR6 : 0 ≤ I 173 6 ∧ I 173 6 ≤ 1000000) : ∃ o, am_call am_B am_M (d + 40) 120 [.inr (.inr (some 64))] (G, I, P) = some o ∧ (QKo G I P ρ lg n2 cl2 (px_text b n true)) o := by
  cases hp : px_text b n true with
  | inl x => have := k_orders_x (d := d) hS hK hB h13 hb hE hL hW hN hBN hR3 hR6 hp; rw [hp] at this; exact this
  | inr q =>
    obtain ⟨m, c⟩ := q
    cases ho : oW n2 cl2 c m 0 ((ρ, lg), 0, -1) with
    | inl i => have := k_orders_s (d := d) hS hK hB h13 hb hE hL hW hN hBN hR3 hR6 hp ho; rw [hp] at this; exact this
    | inr z => have := k_orders_o (d := d) hS hK hB h13 hb hE hL hW hN hBN hR3 hR6 hp ho; rw [hp] at this; exact this
