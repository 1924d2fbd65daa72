/-! ===== the class reads: what stands, pieces of signs ===== -/
def sgI (F : Nat → Int) (k : Nat) : Nat := (F k).toNat % 16
def tlI (F : Nat → Int) (k : Nat) : Nat := (F k).toNat / 16
def nwo (od : Bool) : Nat := if od = true then 16 else 9
/-- the signs from a up to c come to f, whatever stands elsewhere -/
def SG (od : Bool) (F : Nat → Int) (a c D : Nat) (f : Fn) : Prop := a < c ∧ 1 ≤ D ∧ ∀ F' : Nat → Int, (∀ k, a ≤ k → k < c → F' k = F k) → ∀ w, okw w → cseg (opK (sgI F')) (argK (tlI F')) (wvC w (nwo od)) a c D (f w)
theorem SG_congr {od : Bool} {F F1 : Nat → Int} {a c D : Nat} {f : Fn} (h : SG od F a c D f) (e : ∀ k, a ≤ k → k < c → F1 k = F k) : SG od F1 a c D f := ⟨h.1, h.2.1, fun F' e' w hw => h.2.2 F' (fun k h1 h2 => (e' k h1 h2).trans (e k h1 h2)) w hw⟩
theorem SG_more {od : Bool} {F : Nat → Int} {a c D E : Nat} {f : Fn} (h : SG od F a c D f) (hD : D ≤ E) : SG od F a c E f := ⟨h.1, by have := h.2.1; omega, fun F' e' w hw => cseg_more (h.2.2 F' e' w hw) hD⟩
theorem sg_of {F : Nat → Int} {k t s : Nat} (h : F k = ((t * 16 + s : Nat) : Int)) (hs : s < 16) : sgI F k = s ∧ tlI F k = t := by
  unfold sgI tlI
  rw [h, Int.toNat_natCast]
  omega
theorem SG_num {od : Bool} {F : Nat → Int} {a v : Nat} (h : F a = ((v * 16 + 1 : Nat) : Int)) (hv : v ≤ 1000) : SG od F a (a + 1) 1 (fun _ => some (v : Int)) := by
  refine ⟨by omega, Nat.le_refl _, fun F' e' w hw => ?_⟩
  have h1 := sg_of ((e' a (by omega) (by omega)).trans h) (by decide)
  have ho : opK (sgI F') a = 0 := by unfold opK; rw [h1.1, if_pos rfl]
  refine cseg_push (by rw [ho]; decide) ?_ ⟨by omega, by omega⟩
  unfold rkv argK
  rw [if_pos ho, h1.2]
theorem SG_word {od : Bool} {F : Nat → Int} {a j : Nat} (h : F a = ((j * 16 + 2 : Nat) : Int)) (hj : j < nwo od) : SG od F a (a + 1) 1 (fun w => some (w j)) := by
  refine ⟨by omega, Nat.le_refl _, fun F' e' w hw => ?_⟩
  have h1 := sg_of ((e' a (by omega) (by omega)).trans h) (by decide)
  have ho : opK (sgI F') a = 1 := by unfold opK; rw [h1.1, if_neg (by decide), if_pos rfl]
  refine cseg_push (by rw [ho]; decide) ?_ (hw _)
  unfold rkv argK
  rw [if_neg (by rw [ho]; decide), ho, h1.2]
  unfold wvC
  rw [if_pos ⟨rfl, by omega, by omega⟩, Int.toNat_natCast]
theorem SG_bin {od : Bool} {F : Nat → Int} {a c e D E s : Nat} {f g : Fn} (h1 : SG od F a c D f) (h2 : SG od F c e E g) (h : F e = ((0 * 16 + s : Nat) : Int)) (hs : 6 ≤ s ∧ s ≤ 13) : SG od F a (e + 1) (max D (E + 1)) (cmb ((s : Int) + 14) f g) := by
  refine ⟨by have := h1.1; have := h2.1; omega, by omega, fun F' e' w hw => ?_⟩
  have hc := h1.1
  have hd := h2.1
  have h3 := sg_of ((e' e (by omega) (by omega)).trans h) (by omega)
  have ho : opK (sgI F') e = (s : Int) + 14 := by
    unfold opK
    rw [h3.1, if_neg (by omega), if_neg (by omega), if_neg (by omega), if_neg (by omega), if_neg (by omega), if_pos (by omega)]
  rw [cmb_s (by omega)]
  have := cseg_bin (h1.2.2 F' (fun k a1 a2 => e' k a1 (by omega)) w hw) (h2.2.2 F' (fun k a1 a2 => e' k (by omega) (by omega)) w hw) (by rw [ho]; omega) (by omega) h2.2.1
  rw [ho] at this
  exact this
theorem SG_not {od : Bool} {F : Nat → Int} {a c D : Nat} {f : Fn} (h1 : SG od F a c D f) (hf : Vt f) (h : F c = ((0 * 16 + 3 : Nat) : Int)) : SG od F a (c + 1) D (fun w => f_not (f w)) := by
  refine ⟨by have := h1.1; omega, h1.2.1, fun F' e' w hw => ?_⟩
  have hc := h1.1
  have h3 := sg_of ((e' c (by omega) (by omega)).trans h) (by decide)
  have ho : opK (sgI F') c = 28 := by unfold opK; rw [h3.1, if_neg (by decide), if_neg (by decide), if_pos rfl]
  exact cseg_not (h1.2.2 F' (fun k a1 a2 => e' k a1 (by omega)) w hw) ho (hf w hw) h1.2.1
theorem SG_ao {od : Bool} {F : Nat → Int} {a c e D E s : Nat} {f g : Fn} (h1 : SG od F a c D f) (h2 : SG od F (c + 1) e E g) (hf : Vt f) (h : F c = ((e * 16 + s : Nat) : Int)) (hs : s = 4 ∨ s = 5) : SG od F a e (max D E) (cmb ((s : Int) + 25) f g) := by
  refine ⟨by have := h1.1; have := h2.1; omega, by have := h1.2.1; omega, fun F' e' w hw => ?_⟩
  have hc := h1.1
  have hd := h2.1
  have h3 := sg_of ((e' c (by omega) (by omega)).trans h) (by omega)
  have ha : argK (tlI F') c = (e : Int) := by unfold argK; rw [h3.2]
  have s1 := h1.2.2 F' (fun k a1 a2 => e' k a1 (by omega)) w hw
  have s2 := h2.2.2 F' (fun k a1 a2 => e' k (by omega) (by omega)) w hw
  rcases hs with rfl | rfl
  · have ho : opK (sgI F') c = 29 := by unfold opK; rw [h3.1, if_neg (by decide), if_neg (by decide), if_neg (by decide), if_pos rfl]
    have : cmb (((4 : Nat) : Int) + 25) f g = fun w => f_and (f w) (g w) := by funext w; unfold cmb; rw [if_pos (by decide)]
    rw [this]
    exact cseg_and s1 s2 ho ha (by omega) (hf w hw) h1.2.1
  · have ho : opK (sgI F') c = 30 := by unfold opK; rw [h3.1, if_neg (by decide), if_neg (by decide), if_neg (by decide), if_neg (by decide), if_pos rfl]
    have : cmb (((5 : Nat) : Int) + 25) f g = fun w => f_or (f w) (g w) := by funext w; unfold cmb; rw [if_neg (by decide), if_pos (by decide)]
    rw [this]
    exact cseg_or s1 s2 ho ha (by omega) (hf w hw) h1.2.1
/-- the reader: token s, l parts, z signs -/
def RS (I : Nat → Nat → Int) (P : Nat → Nat → Option Nat) (b : Nat → Int) (n : Nat) (od : Bool) (s l z : Nat) : Prop := TK I P b n s ∧ s ≤ n ∧ l ≤ 50 ∧ I 161 3 = (l : Int) ∧ I 161 2 = (if od = true then 1 else 0) ∧ I 162 7 = (z : Int) ∧ z ≤ s ∧ (∀ k, k < z → 0 ≤ I 168 k ∧ I 168 k ≤ 100000) ∧ KS I
def RFr (z : Nat) (I J : Nat → Nat → Int) : Prop := ∀ q k, ¬ (q = 169 ∧ 2 ≤ k ∧ k ≤ 4) → ¬ (q = 161 ∧ (k = 3 ∨ k = 4)) → ¬ (q = 162 ∧ k = 7) → ¬ (q = 168 ∧ z ≤ k) → J q k = I q k
theorem RFr_refl {z : Nat} {I : Nat → Nat → Int} : RFr z I I := fun _ _ _ _ _ _ => rfl
theorem RFr_trans {z y : Nat} {I J K : Nat → Nat → Int} (h : RFr z I J) (h2 : RFr y J K) (hz : z ≤ y) : RFr z I K := fun q k a b c d => (h2 q k a b c (fun e => d ⟨e.1, by omega⟩)).trans (h q k a b c d)
theorem RFr_TKF {z : Nat} {I J : Nat → Nat → Int} (h : TKF I J) : RFr z I J := fun q k a _ _ _ => h q k a
def QR (G : am_G) (P : Nat → Nat → Option Nat) (b : Nat → Int) (n : Nat) (od : Bool) (I : Nat → Nat → Int) (z s0 D : Nat) (r : Rs) (o : am_O) : Prop := match r with
  | .inl x => ∃ I2, o = (some (.inl 0), (G, I2, P)) ∧ I2 161 4 = (x : Int) ∧ RFr z I I2
  | .inr (s', l', g) => ∃ I2 z2, o = (some (.inl 1), (G, I2, P)) ∧ RS I2 P b n od s' l' z2 ∧ z2 + s0 ≤ z + s' ∧ SG od (I2 168) z z2 D g ∧ RFr z I I2
/-- a method that reads as p does -/
def KIt (G : am_G) (P : Nat → Nat → Option Nat) (b : Nat → Int) (n : Nat) (od : Bool) (y : Nat) (br : Int) (D dep : Nat) (p : Nat → Nat → Rs) : Prop := ∀ (d : Nat) (I : Nat → Nat → Int) (s l z : Nat), RS I P b n od s l z → ∃ o, am_call am_B am_M (d + dep) y [.inr (.inr (some 161)), .inl br] (G, I, P) = some o ∧ QR G P b n od I z s D (p s l) o
theorem RS_step {d : Nat} {G : am_G} {I : Nat → Nat → Int} {P : Nat → Nat → Option Nat} {b : Nat → Int} {n : Nat} {od : Bool} {s l z : Nat} (hS : ST G P) (hB : TB b n) (h : RS I P b n od s l z) (hl : s < n) : ∃ I1, am_call am_B am_M (d + 2) 100 [.inr (.inr (some 169))] (G, I, P) = some (none, (G, I1, P)) ∧ RS I1 P b n od (nx b n s) l z ∧ TKF I I1 := by
  obtain ⟨hT, hs, h50, h3, h2, h7, hz, hc, hK⟩ := h
  obtain ⟨I1, e, t1, f1⟩ := k_step1 (d := d) hS hB hT hs
  have hn := nx_2 (b := b) s hl
  exact ⟨I1, e, ⟨t1, hn.2, h50, (f1 _ _ (by decide)).trans h3, (f1 _ _ (by decide)).trans h2, (f1 _ _ (by decide)).trans h7, by omega, fun k hk => by rw [f1 _ _ (by omega)]; exact hc k hk, KS_fr hK (fun q k hq => f1 q k (by omega))⟩, f1⟩
theorem RS_T {I : Nat → Nat → Int} {P : Nat → Nat → Option Nat} {b : Nat → Int} {n : Nat} {od : Bool} {s l z : Nat} (h : RS I P b n od s l z) : TK I P b n s := h.1
theorem RS_s {I : Nat → Nat → Int} {P : Nat → Nat → Option Nat} {b : Nat → Int} {n : Nat} {od : Bool} {s l z : Nat} (h : RS I P b n od s l z) : s ≤ n := h.2.1
theorem RS_l {I : Nat → Nat → Int} {P : Nat → Nat → Option Nat} {b : Nat → Int} {n : Nat} {od : Bool} {s l z : Nat} (h : RS I P b n od s l z) : l ≤ 50 := h.2.2.1
theorem RS_3 {I : Nat → Nat → Int} {P : Nat → Nat → Option Nat} {b : Nat → Int} {n : Nat} {od : Bool} {s l z : Nat} (h : RS I P b n od s l z) : I 161 3 = (l : Int) := h.2.2.2.1
theorem RS_2 {I : Nat → Nat → Int} {P : Nat → Nat → Option Nat} {b : Nat → Int} {n : Nat} {od : Bool} {s l z : Nat} (h : RS I P b n od s l z) : I 161 2 = (if od = true then 1 else 0) := h.2.2.2.2.1
theorem RS_7 {I : Nat → Nat → Int} {P : Nat → Nat → Option Nat} {b : Nat → Int} {n : Nat} {od : Bool} {s l z : Nat} (h : RS I P b n od s l z) : I 162 7 = (z : Int) := h.2.2.2.2.2.1
theorem RS_z {I : Nat → Nat → Int} {P : Nat → Nat → Option Nat} {b : Nat → Int} {n : Nat} {od : Bool} {s l z : Nat} (h : RS I P b n od s l z) : z ≤ s := h.2.2.2.2.2.2.1
theorem RS_c {I : Nat → Nat → Int} {P : Nat → Nat → Option Nat} {b : Nat → Int} {n : Nat} {od : Bool} {s l z : Nat} (h : RS I P b n od s l z) : ∀ k, k < z → 0 ≤ I 168 k ∧ I 168 k ≤ 100000 := h.2.2.2.2.2.2.2.1
theorem RS_K {I : Nat → Nat → Int} {P : Nat → Nat → Option Nat} {b : Nat → Int} {n : Nat} {od : Bool} {s l z : Nat} (h : RS I P b n od s l z) : KS I := h.2.2.2.2.2.2.2.2
theorem cd_or {t s : Nat} (hs : s < 16) (ht : t ≤ 5000) : am_b2 4 (am_b2 6 (t : Int) 4) (s : Int) = ((t * 16 + s : Nat) : Int) := by
  have e1 : t <<< 4 = t * 16 := by rw [Nat.shiftLeft_eq]
  have h1 : am_b2 6 (t : Int) ((4 : Nat) : Int) = ((t <<< 4 : Nat) : Int) := am_shl (by decide) (by rw [e1]; omega)
  have h1' : am_b2 6 (t : Int) 4 = ((t * 16 : Nat) : Int) := by rw [← e1]; exact h1
  rw [h1', am_or (by omega) (by omega)]
  congr 1
  have : (t * 16) ||| s = t <<< 4 ||| s := by rw [e1]
  rw [this, ← Nat.shiftLeft_add_eq_or_of_lt (by omega), e1]
theorem cd_lead {F t s : Nat} (hF : F ≤ 100000) (ht : t ≤ 5000) (hs : F % 16 = s) : am_b2 4 (am_b2 6 (t : Int) 4) (am_b2 3 (F : Int) 15) = ((t * 16 + s : Nat) : Int) := by
  have : am_b2 3 (F : Int) ((15 : Nat) : Int) = ((F &&& 15 : Nat) : Int) := am_and (by omega) (by decide)
  have h2 : F &&& 15 = s := by rw [← hs]; exact Nat.and_two_pow_sub_one_eq_mod F 4
  rw [h2] at this
  have h3 : am_b2 3 (F : Int) 15 = (s : Int) := this
  rw [h3]
  exact cd_or (by omega) ht
theorem k_add {d : Nat} {G : am_G} {I : Nat → Nat → Int} {P : Nat → Nat → Option Nat} (hS : ST G P) {z sg tl : Nat} (h7 : I 162 7 = (z : Int)) (hz : z < 436) (hsg : sg < 16) (htl : tl ≤ 5000) : am_call am_B am_M (d + 1) 94 [(.inr (.inr (some 162))), (.inl (sg : Int)), (.inl (tl : Int))] (G, I, P) = some (none, (G, am_u2 (am_u2 I 168 z ((tl * 16 + sg : Nat) : Int)) 162 7 ((z : Int) + 1), P)) := by
  refine am_doL (L := [some (.inr (.inr (some 162))), some (.inl (sg : Int)), some (.inl (tl : Int))]) (Nat.le_of_ble_eq_true rfl) rfl ?_
  refine (ex_6_0 (ix_41i (v := (z : Int)) (sh_162 hS) h7 (ex_6_0 (ix_41r (sh_162 hS) (pt_162_6 hS) (ix_38 (sh_168 hS) (by decide) ?_)))))
  refine ex_ic3 (fun hc9 => by exfalso; omega) (fun hc9 => ?_)
  refine (ex_6_0 (ix_41r (sh_162 hS) (pt_162_6 hS) (ex_6_0 (ix_41i (v := (z : Int)) (sh_162 hS) h7 (ex_4_2 (ex_0 (ex_11e (v := (am_b2 6 (tl : Int) 4)) rfl (ex_4_1 (ex_11e (v := ((tl * 16 + sg : Nat) : Int)) (cd_or hsg htl) (ix_34 (j := z) (sh_168 hS) (by omega) (by omega) (by omega) (ex_6_0 (ex_22 rfl (ix_41i (v := (z : Int)) (sh_162 hS) ((u2_q (by decide)).trans h7) (ex_0 (ex_add ⟨by omega, by omega⟩ (ix_42i (sh_162 hS) (ex_58 ?_)))))))))))))))))
  exact ex_56 rfl
theorem k_textNext {d : Nat} {G : am_G} {I : Nat → Nat → Int} {P : Nat → Nat → Option Nat} (hS : ST G P) {z : Nat} (h7 : I 162 7 = (z : Int)) : am_call am_B am_M (d + 1) 93 [(.inr (.inr (some 162)))] (G, I, P) = some (some (.inl (z : Int)), (G, I, P)) := by
  refine am_doL (L := [some (.inr (.inr (some 162)))]) (Nat.le_of_ble_eq_true rfl) rfl ?_
  refine (ex_6_0 (ix_41i (v := (z : Int)) (sh_162 hS) h7 ?_))
  exact ex_53 rfl
theorem k_lead {d : Nat} {G : am_G} {I : Nat → Nat → Int} {P : Nat → Nat → Option Nat} (hS : ST G P) {z p F s : Nat} (h7 : I 162 7 = (z : Int)) (hp : p < z) (hz : z ≤ 436) (hF : I 168 p = (F : Int)) (hFb : F ≤ 100000) (hs : F % 16 = s) : am_call am_B am_M (d + 1) 95 [(.inr (.inr (some 162))), (.inl (p : Int))] (G, I, P) = some (none, (G, am_u2 I 168 p ((z * 16 + s : Nat) : Int), P)) := by
  refine am_doL (L := [some (.inr (.inr (some 162))), some (.inl (p : Int))]) (Nat.le_of_ble_eq_true rfl) rfl ?_
  refine (ex_4_1 ?_)
  refine ex_if2 (fun hc1 => by exfalso; omega) (fun hc1 => ?_)
  refine (ex_4_1 (ex_6_0 (ix_41i (v := (z : Int)) (sh_162 hS) h7 ?_)))
  refine ex_ic3 (fun hc9 => by exfalso; omega) (fun hc9 => ?_)
  refine (ex_6_0 (ix_41r (sh_162 hS) (pt_162_6 hS) (ex_4_1 (ex_6_0 (ix_41i (v := (z : Int)) (sh_162 hS) h7 (ex_0 (ex_11e (v := (am_b2 6 (z : Int) 4)) rfl (ex_6_0 (ix_41r (sh_162 hS) (pt_162_6 hS) (ex_4_1 (ix_30 (j := p) (v := (F : Int)) (sh_168 hS) (by omega) (by omega) (by omega) hF (ex_0 (ex_11e (v := (am_b2 3 (F : Int) 15)) rfl (ex_11e (v := ((z * 16 + s : Nat) : Int)) (cd_lead hFb (by omega) hs) (ix_34 (j := p) (sh_168 hS) (by omega) (by omega) (by omega) (ex_58 ?_))))))))))))))))
  exact ex_56 rfl
theorem k_fail {d : Nat} {G : am_G} {I : Nat → Nat → Int} {P : Nat → Nat → Option Nat} (hS : ST G P) {s : Nat} (h2 : I 169 2 = (s : Int)) : am_call am_B am_M (d + 1) 63 [(.inr (.inr (some 161)))] (G, I, P) = some (some (.inl 0), (G, am_u2 I 161 4 (s : Int), P)) := by
  refine am_doL (L := [some (.inr (.inr (some 161)))]) (Nat.le_of_ble_eq_true rfl) rfl ?_
  refine (ex_6_0 (ex_6_0 (ix_41r (sh_161 hS) (pt_161_1 hS) (ix_41i (v := (s : Int)) (sh_169 hS) h2 (ix_42i (sh_161 hS) (ex_0 ?_))))))
  exact ex_57 (by decide) rfl
theorem RS_add {I : Nat → Nat → Int} {P : Nat → Nat → Option Nat} {b : Nat → Int} {n : Nat} {od : Bool} {s l z v : Nat} (h : RS I P b n od s l z) (hz : z < s) (hv : v ≤ 100000) : RS (am_u2 (am_u2 I 168 z (v : Int)) 162 7 ((z : Int) + 1)) P b n od s l (z + 1) := by
  obtain ⟨hT, hs, h50, h3, h2, h7, hz0, hc, hK⟩ := h
  refine ⟨TK_fr hT (fun q k hq => (u2_q (by omega)).trans (u2_q (by omega))), hs, h50, (u2_q (by decide)).trans ((u2_q (by decide)).trans h3), (u2_q (by decide)).trans ((u2_q (by decide)).trans h2), u2_e, hz, fun k hk => ?_, KS_fr hK (fun q k hq => (u2_q (by omega)).trans (u2_q (by omega)))⟩
  rw [u2_q (by decide), u2_at]
  split
  · omega
  · exact hc k (by omega)
theorem RS_lead {I : Nat → Nat → Int} {P : Nat → Nat → Option Nat} {b : Nat → Int} {n : Nat} {od : Bool} {s l z p v : Nat} (h : RS I P b n od s l z) (hv : v ≤ 100000) : RS (am_u2 I 168 p (v : Int)) P b n od s l z := by
  obtain ⟨hT, hs, h50, h3, h2, h7, hz0, hc, hK⟩ := h
  refine ⟨TK_fr hT (fun q k hq => u2_q (by omega)), hs, h50, (u2_q (by decide)).trans h3, (u2_q (by decide)).trans h2, (u2_q (by decide)).trans h7, hz0, fun k hk => ?_, KS_fr hK (fun q k hq => u2_q (by omega))⟩
  rw [u2_at]
  split
  · omega
  · exact hc k hk
theorem RFr_add {I : Nat → Nat → Int} {z y : Nat} {v x : Int} (hz : z ≤ y) : RFr z I (am_u2 (am_u2 I 168 y v) 162 7 x) := fun q k _ _ c d => (u2_o (by omega)).trans (u2_o (by omega))
theorem RFr_lead {I : Nat → Nat → Int} {z y : Nat} {v : Int} (hz : z ≤ y) : RFr z I (am_u2 I 168 y v) := fun q k _ _ c d => u2_o (by omega)
theorem RFr_fail {I : Nat → Nat → Int} {z : Nat} {v : Int} : RFr z I (am_u2 I 161 4 v) := fun q k _ b _ _ => u2_o (by omega)
theorem k_exp_6_t {d : Nat} {G : am_G} {I : Nat → Nat → Int} {P : Nat → Nat → Option Nat} (hS : ST G P) {b : Nat → Int} {n : Nat} (hB : TB b n) {od : Bool} {s l z : Nat} (hR : RS I P b n od s l z) (h : tk b n s = [93]) : ∃ I1, am_call am_B am_M (d + 3) 64 [(.inr (.inr (some 161))), (.inr (.inr (some 6)))] (G, I, P) = some ((some (.inl 1)), (G, I1, P)) ∧ (RS I1 P b n od (nx b n s) l z ∧ TKF I I1) := by
  have w : am_ex (am_call am_B am_M (d + 2)) (am_B 64) (am_B 64 0) [some (.inr (.inr (some 161))), some (.inr (.inr (some 6)))] [] (G, I, P) (fun o => ∃ I1, o = ((some (.inl 1)), (G, I1, P)) ∧ (RS I1 P b n od (nx b n s) l z ∧ TKF I I1)) := by
    refine (ex_6_0 (ix_41r (sh_161 hS) (pt_161_1 hS) (ex_6_1 (ix_46 (S' := [(.inl 0)]) rfl (sh_169 hS) (k_ov_6 hS (RS_K hR) hB (RS_T hR) (RS_s hR) (v := 0) (by simp only [ooI, if_pos h])) rfl rfl (ex_0 (ex_ic1 (fun _ => ?_) (fun hc => by exfalso; revert hc; decide)))))))
    refine (ex_6_0 (ix_41r (sh_161 hS) (pt_161_1 hS) ?_))
    obtain ⟨I1, e1, r1, f1⟩ := RS_step (d := d) hS hB hR (tk_lt (RS_s hR) h)
    refine (ix_46 (S' := []) rfl (sh_169 hS) e1 rfl rfl (ex_0 ?_))
    exact ex_57 (by decide) ⟨_, rfl, r1, f1⟩
  obtain ⟨o, e, I1, rfl, h⟩ := am_doQ (as := [(.inr (.inr (some 161))), (.inr (.inr (some 6)))]) (Nat.le_of_ble_eq_true rfl) rfl w
  exact ⟨I1, e, h⟩
theorem k_exp_6_f {d : Nat} {G : am_G} {I : Nat → Nat → Int} {P : Nat → Nat → Option Nat} (hS : ST G P) {b : Nat → Int} {n : Nat} (hB : TB b n) {od : Bool} {s l z : Nat} (hR : RS I P b n od s l z) (h : ¬ tk b n s = [93]) : am_call am_B am_M (d + 3) 64 [(.inr (.inr (some 161))), (.inr (.inr (some 6)))] (G, I, P) = some (some (.inl 0), (G, am_u2 I 161 4 (s : Int), P)) := by
  refine am_doL (L := [some (.inr (.inr (some 161))), some (.inr (.inr (some 6)))]) (Nat.le_of_ble_eq_true rfl) rfl ?_
  refine (ex_6_0 (ix_41r (sh_161 hS) (pt_161_1 hS) (ex_6_1 (ix_46 (S' := [(.inl (-1))]) rfl (sh_169 hS) (k_ov_6 hS (RS_K hR) hB (RS_T hR) (RS_s hR) (v := -1) (by simp only [ooI, if_neg h])) rfl rfl (ex_0 (ex_ic1 (fun hc => by exfalso; revert hc; decide) (fun _ => ?_)))))))
  refine (ex_6_0 (ix_46 (S' := [(.inl 0)]) rfl (sh_161 hS) (k_fail hS (RS_T hR).2.2.1) rfl rfl ?_))
  exact ex_57 (by decide) rfl
theorem k_exp_11_t {d : Nat} {G : am_G} {I : Nat → Nat → Int} {P : Nat → Nat → Option Nat} (hS : ST G P) {b : Nat → Int} {n : Nat} (hB : TB b n) {od : Bool} {s l z : Nat} (hR : RS I P b n od s l z) (h : tk b n s = [116, 111]) : ∃ I1, am_call am_B am_M (d + 3) 64 [(.inr (.inr (some 161))), (.inr (.inr (some 11)))] (G, I, P) = some ((some (.inl 1)), (G, I1, P)) ∧ (RS I1 P b n od (nx b n s) l z ∧ TKF I I1) := by
  have w : am_ex (am_call am_B am_M (d + 2)) (am_B 64) (am_B 64 0) [some (.inr (.inr (some 161))), some (.inr (.inr (some 11)))] [] (G, I, P) (fun o => ∃ I1, o = ((some (.inl 1)), (G, I1, P)) ∧ (RS I1 P b n od (nx b n s) l z ∧ TKF I I1)) := by
    refine (ex_6_0 (ix_41r (sh_161 hS) (pt_161_1 hS) (ex_6_1 (ix_46 (S' := [(.inl 0)]) rfl (sh_169 hS) (k_ov_11 hS (RS_K hR) hB (RS_T hR) (RS_s hR) (v := 0) (by simp only [ooI, if_pos h])) rfl rfl (ex_0 (ex_ic1 (fun _ => ?_) (fun hc => by exfalso; revert hc; decide)))))))
    refine (ex_6_0 (ix_41r (sh_161 hS) (pt_161_1 hS) ?_))
    obtain ⟨I1, e1, r1, f1⟩ := RS_step (d := d) hS hB hR (tk_lt (RS_s hR) h)
    refine (ix_46 (S' := []) rfl (sh_169 hS) e1 rfl rfl (ex_0 ?_))
    exact ex_57 (by decide) ⟨_, rfl, r1, f1⟩
  obtain ⟨o, e, I1, rfl, h⟩ := am_doQ (as := [(.inr (.inr (some 161))), (.inr (.inr (some 11)))]) (Nat.le_of_ble_eq_true rfl) rfl w
  exact ⟨I1, e, h⟩
theorem k_exp_11_f {d : Nat} {G : am_G} {I : Nat → Nat → Int} {P : Nat → Nat → Option Nat} (hS : ST G P) {b : Nat → Int} {n : Nat} (hB : TB b n) {od : Bool} {s l z : Nat} (hR : RS I P b n od s l z) (h : ¬ tk b n s = [116, 111]) : am_call am_B am_M (d + 3) 64 [(.inr (.inr (some 161))), (.inr (.inr (some 11)))] (G, I, P) = some (some (.inl 0), (G, am_u2 I 161 4 (s : Int), P)) := by
  refine am_doL (L := [some (.inr (.inr (some 161))), some (.inr (.inr (some 11)))]) (Nat.le_of_ble_eq_true rfl) rfl ?_
  refine (ex_6_0 (ix_41r (sh_161 hS) (pt_161_1 hS) (ex_6_1 (ix_46 (S' := [(.inl (-1))]) rfl (sh_169 hS) (k_ov_11 hS (RS_K hR) hB (RS_T hR) (RS_s hR) (v := -1) (by simp only [ooI, if_neg h])) rfl rfl (ex_0 (ex_ic1 (fun hc => by exfalso; revert hc; decide) (fun _ => ?_)))))))
  refine (ex_6_0 (ix_46 (S' := [(.inl 0)]) rfl (sh_161 hS) (k_fail hS (RS_T hR).2.2.1) rfl rfl ?_))
  exact ex_57 (by decide) rfl
theorem k_exp_16_t {d : Nat} {G : am_G} {I : Nat → Nat → Int} {P : Nat → Nat → Option Nat} (hS : ST G P) {b : Nat → Int} {n : Nat} (hB : TB b n) {od : Bool} {s l z : Nat} (hR : RS I P b n od s l z) (h : tk b n s = [41]) : ∃ I1, am_call am_B am_M (d + 3) 64 [(.inr (.inr (some 161))), (.inr (.inr (some 16)))] (G, I, P) = some ((some (.inl 1)), (G, I1, P)) ∧ (RS I1 P b n od (nx b n s) l z ∧ TKF I I1) := by
  have w : am_ex (am_call am_B am_M (d + 2)) (am_B 64) (am_B 64 0) [some (.inr (.inr (some 161))), some (.inr (.inr (some 16)))] [] (G, I, P) (fun o => ∃ I1, o = ((some (.inl 1)), (G, I1, P)) ∧ (RS I1 P b n od (nx b n s) l z ∧ TKF I I1)) := by
    refine (ex_6_0 (ix_41r (sh_161 hS) (pt_161_1 hS) (ex_6_1 (ix_46 (S' := [(.inl 0)]) rfl (sh_169 hS) (k_ov_16 hS (RS_K hR) hB (RS_T hR) (RS_s hR) (v := 0) (by simp only [ooI, if_pos h])) rfl rfl (ex_0 (ex_ic1 (fun _ => ?_) (fun hc => by exfalso; revert hc; decide)))))))
    refine (ex_6_0 (ix_41r (sh_161 hS) (pt_161_1 hS) ?_))
    obtain ⟨I1, e1, r1, f1⟩ := RS_step (d := d) hS hB hR (tk_lt (RS_s hR) h)
    refine (ix_46 (S' := []) rfl (sh_169 hS) e1 rfl rfl (ex_0 ?_))
    exact ex_57 (by decide) ⟨_, rfl, r1, f1⟩
  obtain ⟨o, e, I1, rfl, h⟩ := am_doQ (as := [(.inr (.inr (some 161))), (.inr (.inr (some 16)))]) (Nat.le_of_ble_eq_true rfl) rfl w
  exact ⟨I1, e, h⟩
theorem k_exp_16_f {d : Nat} {G : am_G} {I : Nat → Nat → Int} {P : Nat → Nat → Option Nat} (hS : ST G P) {b : Nat → Int} {n : Nat} (hB : TB b n) {od : Bool} {s l z : Nat} (hR : RS I P b n od s l z) (h : ¬ tk b n s = [41]) : am_call am_B am_M (d + 3) 64 [(.inr (.inr (some 161))), (.inr (.inr (some 16)))] (G, I, P) = some (some (.inl 0), (G, am_u2 I 161 4 (s : Int), P)) := by
  refine am_doL (L := [some (.inr (.inr (some 161))), some (.inr (.inr (some 16)))]) (Nat.le_of_ble_eq_true rfl) rfl ?_
  refine (ex_6_0 (ix_41r (sh_161 hS) (pt_161_1 hS) (ex_6_1 (ix_46 (S' := [(.inl (-1))]) rfl (sh_169 hS) (k_ov_16 hS (RS_K hR) hB (RS_T hR) (RS_s hR) (v := -1) (by simp only [ooI, if_neg h])) rfl rfl (ex_0 (ex_ic1 (fun hc => by exfalso; revert hc; decide) (fun _ => ?_)))))))
  refine (ex_6_0 (ix_46 (S' := [(.inl 0)]) rfl (sh_161 hS) (k_fail hS (RS_T hR).2.2.1) rfl rfl ?_))
  exact ex_57 (by decide) rfl
theorem k_exp_20_t {d : Nat} {G : am_G} {I : Nat → Nat → Int} {P : Nat → Nat → Option Nat} (hS : ST G P) {b : Nat → Int} {n : Nat} (hB : TB b n) {od : Bool} {s l z : Nat} (hR : RS I P b n od s l z) (h : tk b n s = [59]) : ∃ I1, am_call am_B am_M (d + 3) 64 [(.inr (.inr (some 161))), (.inr (.inr (some 20)))] (G, I, P) = some ((some (.inl 1)), (G, I1, P)) ∧ (RS I1 P b n od (nx b n s) l z ∧ TKF I I1) := by
  have w : am_ex (am_call am_B am_M (d + 2)) (am_B 64) (am_B 64 0) [some (.inr (.inr (some 161))), some (.inr (.inr (some 20)))] [] (G, I, P) (fun o => ∃ I1, o = ((some (.inl 1)), (G, I1, P)) ∧ (RS I1 P b n od (nx b n s) l z ∧ TKF I I1)) := by
    refine (ex_6_0 (ix_41r (sh_161 hS) (pt_161_1 hS) (ex_6_1 (ix_46 (S' := [(.inl 0)]) rfl (sh_169 hS) (k_ov_20 hS (RS_K hR) hB (RS_T hR) (RS_s hR) (v := 0) (by simp only [ooI, if_pos h])) rfl rfl (ex_0 (ex_ic1 (fun _ => ?_) (fun hc => by exfalso; revert hc; decide)))))))
    refine (ex_6_0 (ix_41r (sh_161 hS) (pt_161_1 hS) ?_))
    obtain ⟨I1, e1, r1, f1⟩ := RS_step (d := d) hS hB hR (tk_lt (RS_s hR) h)
    refine (ix_46 (S' := []) rfl (sh_169 hS) e1 rfl rfl (ex_0 ?_))
    exact ex_57 (by decide) ⟨_, rfl, r1, f1⟩
  obtain ⟨o, e, I1, rfl, h⟩ := am_doQ (as := [(.inr (.inr (some 161))), (.inr (.inr (some 20)))]) (Nat.le_of_ble_eq_true rfl) rfl w
  exact ⟨I1, e, h⟩
theorem k_exp_20_f {d : Nat} {G : am_G} {I : Nat → Nat → Int} {P : Nat → Nat → Option Nat} (hS : ST G P) {b : Nat → Int} {n : Nat} (hB : TB b n) {od : Bool} {s l z : Nat} (hR : RS I P b n od s l z) (h : ¬ tk b n s = [59]) : am_call am_B am_M (d + 3) 64 [(.inr (.inr (some 161))), (.inr (.inr (some 20)))] (G, I, P) = some (some (.inl 0), (G, am_u2 I 161 4 (s : Int), P)) := by
  refine am_doL (L := [some (.inr (.inr (some 161))), some (.inr (.inr (some 20)))]) (Nat.le_of_ble_eq_true rfl) rfl ?_
  refine (ex_6_0 (ix_41r (sh_161 hS) (pt_161_1 hS) (ex_6_1 (ix_46 (S' := [(.inl (-1))]) rfl (sh_169 hS) (k_ov_20 hS (RS_K hR) hB (RS_T hR) (RS_s hR) (v := -1) (by simp only [ooI, if_neg h])) rfl rfl (ex_0 (ex_ic1 (fun hc => by exfalso; revert hc; decide) (fun _ => ?_)))))))
  refine (ex_6_0 (ix_46 (S' := [(.inl 0)]) rfl (sh_161 hS) (k_fail hS (RS_T hR).2.2.1) rfl rfl ?_))
  exact ex_57 (by decide) rfl
