/-! ===== the reference works sums and tests out: reckon, reckonAll ===== -/
def m_rv (o a b : Int) : Int := if o = 20 then a + b else if o = 21 then a - b else if o = 22 then a * b else if o = 23 then am_d8 0 a b else if o = 24 then am_d8 1 a b else if o = 25 then (if a < b then 1 else 0) else if o = 26 then (if b < a then 1 else 0) else (if a = b then 1 else 0)
def rkb (v : Int) : Prop := -1000000000 ≤ v ∧ v ≤ 1000000000
def m_dz (o b : Int) : Prop := (o = 23 ∨ o = 24) ∧ b = 0
theorem u2_same {I : Nat → Nat → Int} {q k : Nat} {v : Int} (h : I q k = v) : am_u2 I q k v = I := by
  funext a b
  by_cases h1 : a = q
  · subst h1
    rw [u2_at]
    split
    · rename_i h2; rw [h2, h]
    · rfl
  · rw [u2_q h1]
theorem mul_b {a b : Int} (ha : rkb a) (hb : rkb b) : -1000000000000000000 ≤ a * b ∧ a * b ≤ 1000000000000000000 := by
  have h : (a * b).natAbs ≤ 1000000000 * 1000000000 := by
    rw [Int.natAbs_mul]
    exact Nat.mul_le_mul (by have := ha; unfold rkb at this; omega) (by have := hb; unfold rkb at this; omega)
  omega
theorem c_rk_20 {d : Nat} {G : am_G} {I : Nat → Nat → Int} {P : Nat → Nat → Option Nat} (hS : ST G P) {a b : Int} (ha : rkb a) (hb : rkb b) (h38 : I 208 38 = 0) : am_call am_B am_M (d + 1) 227 [(.inr (.inr (some 208))), (.inl 20), (.inr (.inl a)), (.inr (.inl b))] (G, I, P) = some (some (.inr (.inl (a + b))), (G, I, P)) := by
  have ha2 : -1000000000 ≤ a ∧ a ≤ 1000000000 := ha
  have hb2 : -1000000000 ≤ b ∧ b ≤ 1000000000 := hb
  have hm := mul_b ha hb
  refine am_doL (L := [some (.inr (.inr (some 208))), some (.inl 20), some (.inr (.inl a)), none, some (.inr (.inl b)), none]) (Nat.le_of_ble_eq_true rfl) rfl ?_
  refine (ex_4_1 (ex_29i 0 rfl rfl (ex_5_2 (ex_5_4 (ex_ladd ⟨by omega, by omega⟩ ?_)))))
  exact ex_54 rfl
theorem c_rk_21 {d : Nat} {G : am_G} {I : Nat → Nat → Int} {P : Nat → Nat → Option Nat} (hS : ST G P) {a b : Int} (ha : rkb a) (hb : rkb b) (h38 : I 208 38 = 0) : am_call am_B am_M (d + 1) 227 [(.inr (.inr (some 208))), (.inl 21), (.inr (.inl a)), (.inr (.inl b))] (G, I, P) = some (some (.inr (.inl (a - b))), (G, I, P)) := by
  have ha2 : -1000000000 ≤ a ∧ a ≤ 1000000000 := ha
  have hb2 : -1000000000 ≤ b ∧ b ≤ 1000000000 := hb
  have hm := mul_b ha hb
  refine am_doL (L := [some (.inr (.inr (some 208))), some (.inl 21), some (.inr (.inl a)), none, some (.inr (.inl b)), none]) (Nat.le_of_ble_eq_true rfl) rfl ?_
  refine (ex_4_1 (ex_29i 1 rfl rfl (ex_5_2 (ex_5_4 (ex_lsub ⟨by omega, by omega⟩ ?_)))))
  exact ex_54 rfl
theorem c_rk_22 {d : Nat} {G : am_G} {I : Nat → Nat → Int} {P : Nat → Nat → Option Nat} (hS : ST G P) {a b : Int} (ha : rkb a) (hb : rkb b) (h38 : I 208 38 = 0) : am_call am_B am_M (d + 1) 227 [(.inr (.inr (some 208))), (.inl 22), (.inr (.inl a)), (.inr (.inl b))] (G, I, P) = some (some (.inr (.inl (a * b))), (G, I, P)) := by
  have ha2 : -1000000000 ≤ a ∧ a ≤ 1000000000 := ha
  have hb2 : -1000000000 ≤ b ∧ b ≤ 1000000000 := hb
  have hm := mul_b ha hb
  refine am_doL (L := [some (.inr (.inr (some 208))), some (.inl 22), some (.inr (.inl a)), none, some (.inr (.inl b)), none]) (Nat.le_of_ble_eq_true rfl) rfl ?_
  refine (ex_4_1 (ex_29i 2 rfl rfl (ex_5_2 (ex_5_4 (ex_lmul ⟨by omega, by omega⟩ ?_)))))
  exact ex_54 rfl
theorem c_rk_23 {d : Nat} {G : am_G} {I : Nat → Nat → Int} {P : Nat → Nat → Option Nat} (hS : ST G P) {a b : Int} (ha : rkb a) (hb : rkb b) (h38 : I 208 38 = 0) (hz : ¬ b = 0) : am_call am_B am_M (d + 1) 227 [(.inr (.inr (some 208))), (.inl 23), (.inr (.inl a)), (.inr (.inl b))] (G, I, P) = some (some (.inr (.inl (am_d8 0 a b))), (G, I, P)) := by
  have ha2 : -1000000000 ≤ a ∧ a ≤ 1000000000 := ha
  have hb2 : -1000000000 ≤ b ∧ b ≤ 1000000000 := hb
  have hm := mul_b ha hb
  refine am_doL (L := [some (.inr (.inr (some 208))), some (.inl 23), some (.inr (.inl a)), none, some (.inr (.inl b)), none]) (Nat.le_of_ble_eq_true rfl) rfl ?_
  refine (ex_4_1 (ex_29i 3 rfl rfl (ex_6_0 (ex_5_4 (ex_1 ?_)))))
  refine ex_lc1 (fun hc64 => ?_) (fun hc64 => by exfalso; omega)
  refine (ex_0 (ex_58 (ix_42z (sh_208 hS) (by decide) (ex_6_0 (ix_41i (sh_208 hS) u2_e (ex_if0 (fun _ => ?_) (fun hc => by exfalso; revert hc; decide)))))))
  refine (ex_5_2 (ex_5_4 (ex_16 hz rfl (ex_58 ?_))))
  exact ex_54 (by rw [u2_same h38])
theorem c_rk_23z {d : Nat} {G : am_G} {I : Nat → Nat → Int} {P : Nat → Nat → Option Nat} (hS : ST G P) {a b : Int} (hz : b = 0) (ha : rkb a) (hb : rkb b) (h38 : I 208 38 = 0) : am_call am_B am_M (d + 1) 227 [(.inr (.inr (some 208))), (.inl 23), (.inr (.inl a)), (.inr (.inl b))] (G, I, P) = some (some (.inr (.inl 0)), (G, am_u2 I 208 38 1, P)) := by
  have ha2 : -1000000000 ≤ a ∧ a ≤ 1000000000 := ha
  have hb2 : -1000000000 ≤ b ∧ b ≤ 1000000000 := hb
  have hm := mul_b ha hb
  refine am_doL (L := [some (.inr (.inr (some 208))), some (.inl 23), some (.inr (.inl a)), none, some (.inr (.inl b)), none]) (Nat.le_of_ble_eq_true rfl) rfl ?_
  refine (ex_4_1 (ex_29i 3 rfl rfl (ex_6_0 (ex_5_4 (ex_1 ?_)))))
  refine ex_lc1 (fun hc64 => by exfalso; omega) (fun hc64 => ?_)
  refine (ex_0 (ex_28 (ix_42z (sh_208 hS) (by decide) (ex_6_0 (ix_41i (sh_208 hS) u2_e (ex_if0 (fun hc => by exfalso; revert hc; decide) (fun _ => ?_)))))))
  refine (ex_1 (ex_28 ?_))
  exact ex_54 rfl
theorem c_rk_24 {d : Nat} {G : am_G} {I : Nat → Nat → Int} {P : Nat → Nat → Option Nat} (hS : ST G P) {a b : Int} (ha : rkb a) (hb : rkb b) (h38 : I 208 38 = 0) (hz : ¬ b = 0) : am_call am_B am_M (d + 1) 227 [(.inr (.inr (some 208))), (.inl 24), (.inr (.inl a)), (.inr (.inl b))] (G, I, P) = some (some (.inr (.inl (am_d8 1 a b))), (G, I, P)) := by
  have ha2 : -1000000000 ≤ a ∧ a ≤ 1000000000 := ha
  have hb2 : -1000000000 ≤ b ∧ b ≤ 1000000000 := hb
  have hm := mul_b ha hb
  refine am_doL (L := [some (.inr (.inr (some 208))), some (.inl 24), some (.inr (.inl a)), none, some (.inr (.inl b)), none]) (Nat.le_of_ble_eq_true rfl) rfl ?_
  refine (ex_4_1 (ex_29i 4 rfl rfl (ex_6_0 (ex_5_4 (ex_1 ?_)))))
  refine ex_lc1 (fun hc96 => ?_) (fun hc96 => by exfalso; omega)
  refine (ex_0 (ex_58 (ix_42z (sh_208 hS) (by decide) (ex_6_0 (ix_41i (sh_208 hS) u2_e (ex_if0 (fun _ => ?_) (fun hc => by exfalso; revert hc; decide)))))))
  refine (ex_5_2 (ex_5_4 (ex_16 hz rfl (ex_58 ?_))))
  exact ex_54 (by rw [u2_same h38])
theorem c_rk_24z {d : Nat} {G : am_G} {I : Nat → Nat → Int} {P : Nat → Nat → Option Nat} (hS : ST G P) {a b : Int} (hz : b = 0) (ha : rkb a) (hb : rkb b) (h38 : I 208 38 = 0) : am_call am_B am_M (d + 1) 227 [(.inr (.inr (some 208))), (.inl 24), (.inr (.inl a)), (.inr (.inl b))] (G, I, P) = some (some (.inr (.inl 0)), (G, am_u2 I 208 38 1, P)) := by
  have ha2 : -1000000000 ≤ a ∧ a ≤ 1000000000 := ha
  have hb2 : -1000000000 ≤ b ∧ b ≤ 1000000000 := hb
  have hm := mul_b ha hb
  refine am_doL (L := [some (.inr (.inr (some 208))), some (.inl 24), some (.inr (.inl a)), none, some (.inr (.inl b)), none]) (Nat.le_of_ble_eq_true rfl) rfl ?_
  refine (ex_4_1 (ex_29i 4 rfl rfl (ex_6_0 (ex_5_4 (ex_1 ?_)))))
  refine ex_lc1 (fun hc96 => by exfalso; omega) (fun hc96 => ?_)
  refine (ex_0 (ex_28 (ix_42z (sh_208 hS) (by decide) (ex_6_0 (ix_41i (sh_208 hS) u2_e (ex_if0 (fun hc => by exfalso; revert hc; decide) (fun _ => ?_)))))))
  refine (ex_1 (ex_28 ?_))
  exact ex_54 rfl
theorem c_rk_25 {d : Nat} {G : am_G} {I : Nat → Nat → Int} {P : Nat → Nat → Option Nat} (hS : ST G P) {a b : Int} (ha : rkb a) (hb : rkb b) (h38 : I 208 38 = 0) : am_call am_B am_M (d + 1) 227 [(.inr (.inr (some 208))), (.inl 25), (.inr (.inl a)), (.inr (.inl b))] (G, I, P) = some (some (.inr (.inl (if a < b then 1 else 0))), (G, I, P)) := by
  have ha2 : -1000000000 ≤ a ∧ a ≤ 1000000000 := ha
  have hb2 : -1000000000 ≤ b ∧ b ≤ 1000000000 := hb
  have hm := mul_b ha hb
  refine am_doL (L := [some (.inr (.inr (some 208))), some (.inl 25), some (.inr (.inl a)), none, some (.inr (.inl b)), none]) (Nat.le_of_ble_eq_true rfl) rfl ?_
  refine (ex_4_1 (ex_29i 5 rfl rfl (ex_5_2 (ex_5_4 ?_))))
  refine ex_lc3 (fun hc127 => ?_) (fun hc127 => ?_)
  · refine (ex_1 (ex_58 ?_))
    exact ex_54 (by rw [if_neg (by omega)])
  · refine (ex_1 (ex_28 ?_))
    exact ex_54 (by rw [if_pos (by omega)])
theorem c_rk_26 {d : Nat} {G : am_G} {I : Nat → Nat → Int} {P : Nat → Nat → Option Nat} (hS : ST G P) {a b : Int} (ha : rkb a) (hb : rkb b) (h38 : I 208 38 = 0) : am_call am_B am_M (d + 1) 227 [(.inr (.inr (some 208))), (.inl 26), (.inr (.inl a)), (.inr (.inl b))] (G, I, P) = some (some (.inr (.inl (if b < a then 1 else 0))), (G, I, P)) := by
  have ha2 : -1000000000 ≤ a ∧ a ≤ 1000000000 := ha
  have hb2 : -1000000000 ≤ b ∧ b ≤ 1000000000 := hb
  have hm := mul_b ha hb
  refine am_doL (L := [some (.inr (.inr (some 208))), some (.inl 26), some (.inr (.inl a)), none, some (.inr (.inl b)), none]) (Nat.le_of_ble_eq_true rfl) rfl ?_
  refine (ex_4_1 (ex_29i 6 rfl rfl (ex_5_2 (ex_5_4 ?_))))
  refine ex_lc5 (fun hc140 => ?_) (fun hc140 => ?_)
  · refine (ex_1 (ex_58 ?_))
    exact ex_54 (by rw [if_neg (by omega)])
  · refine (ex_1 (ex_28 ?_))
    exact ex_54 (by rw [if_pos (by omega)])
theorem c_rk_27 {d : Nat} {G : am_G} {I : Nat → Nat → Int} {P : Nat → Nat → Option Nat} (hS : ST G P) {a b : Int} (ha : rkb a) (hb : rkb b) (h38 : I 208 38 = 0) : am_call am_B am_M (d + 1) 227 [(.inr (.inr (some 208))), (.inl 27), (.inr (.inl a)), (.inr (.inl b))] (G, I, P) = some (some (.inr (.inl (if a = b then 1 else 0))), (G, I, P)) := by
  have ha2 : -1000000000 ≤ a ∧ a ≤ 1000000000 := ha
  have hb2 : -1000000000 ≤ b ∧ b ≤ 1000000000 := hb
  have hm := mul_b ha hb
  refine am_doL (L := [some (.inr (.inr (some 208))), some (.inl 27), some (.inr (.inl a)), none, some (.inr (.inl b)), none]) (Nat.le_of_ble_eq_true rfl) rfl ?_
  refine (ex_4_1 (ex_29o (by decide) (ex_5_2 (ex_5_4 ?_))))
  refine ex_lc1 (fun hc153 => ?_) (fun hc153 => ?_)
  · refine (ex_1 (ex_58 ?_))
    exact ex_54 (by rw [if_neg (by omega)])
  · refine (ex_1 (ex_28 ?_))
    exact ex_54 (by rw [if_pos (by omega)])
theorem c_reckon {d : Nat} {G : am_G} {I : Nat → Nat → Int} {P : Nat → Nat → Option Nat} (hS : ST G P) {o a b : Int} (ho : 20 ≤ o ∧ o < 28) (ha : rkb a) (hb : rkb b) (h38 : I 208 38 = 0) (hz : ¬ m_dz o b) : am_call am_B am_M (d + 1) 227 [.inr (.inr (some 208)), .inl o, .inr (.inl a), .inr (.inl b)] (G, I, P) = some (some (.inr (.inl (m_rv o a b))), (G, I, P)) := by
  unfold m_dz at hz
  have : o = 20 ∨ o = 21 ∨ o = 22 ∨ o = 23 ∨ o = 24 ∨ o = 25 ∨ o = 26 ∨ o = 27 := by omega
  rcases this with rfl | rfl | rfl | rfl | rfl | rfl | rfl | rfl
  · exact c_rk_20 hS ha hb h38
  · exact c_rk_21 hS ha hb h38
  · exact c_rk_22 hS ha hb h38
  · exact c_rk_23 hS ha hb h38 (by omega)
  · exact c_rk_24 hS ha hb h38 (by omega)
  · exact c_rk_25 hS ha hb h38
  · exact c_rk_26 hS ha hb h38
  · exact c_rk_27 hS ha hb h38
theorem c_reckon_z {d : Nat} {G : am_G} {I : Nat → Nat → Int} {P : Nat → Nat → Option Nat} (hS : ST G P) {o a b : Int} (ha : rkb a) (hb : rkb b) (h38 : I 208 38 = 0) (hz : m_dz o b) : am_call am_B am_M (d + 1) 227 [.inr (.inr (some 208)), .inl o, .inr (.inl a), .inr (.inl b)] (G, I, P) = some (some (.inr (.inl 0)), (G, am_u2 I 208 38 1, P)) := by
  obtain ⟨rfl | rfl, h0⟩ := hz
  · exact c_rk_23z hS h0 ha hb h38
  · exact c_rk_24z hS h0 ha hb h38
/-- the pure run of a code: no fuel or a fault of form: none; broken: some none; done: some (some (n, rest)) -/
def rkv (wv : Int → Int → Option Int) (o a : Int) : Option Int := if o = 0 then some a else wv o a
def rkok (o : Option Int) : Bool := match o with
  | some v => decide (-1000000000 ≤ v ∧ v ≤ 1000000000)
  | none => false
def rk (op arg : Nat → Int) (wv : Int → Int → Option Int) (last : Nat) : Nat → Nat → Nat → (Nat → Int) → Option (Option (Nat × (Nat → Int)))
  | 0, _, _, _ => none
  | f + 1, k, n, r =>
    if last ≤ k then some (some (n, r))
    else if op k < 20 then (if 0 ≤ op k ∧ n < 400 ∧ rkok (rkv wv (op k) (arg k)) = true then rk op arg wv last f (k + 1) (n + 1) (am_u1 r n ((rkv wv (op k) (arg k)).getD 0)) else none)
    else if op k < 28 then (if 2 ≤ n ∧ n ≤ 400 then (if ((op k = 23 ∨ op k = 24) ∧ r (n - 1) = 0) ∨ ¬ (-1000000000 ≤ m_rv (op k) (r (n - 2)) (r (n - 1)) ∧ m_rv (op k) (r (n - 2)) (r (n - 1)) ≤ 1000000000) then some none else rk op arg wv last f (k + 1) (n - 1) (am_u1 r (n - 2) (m_rv (op k) (r (n - 2)) (r (n - 1))))) else none)
    else if op k = 28 then (if (1 ≤ n ∧ n ≤ 400) ∧ (r (n - 1) = 0 ∨ r (n - 1) = 1) then rk op arg wv last f (k + 1) n (am_u1 r (n - 1) (1 - r (n - 1))) else none)
    else if (1 ≤ n ∧ n ≤ 400) ∧ 0 ≤ arg k ∧ arg k ≤ 400 then (if r (n - 1) = (if op k = 29 then 0 else 1) then rk op arg wv last f (arg k).toNat n r else rk op arg wv last f (k + 1) (n - 1) r) else none
theorem brk_h {I : Nat → Nat → Int} {r : Nat → Int} {m : Nat} {v : Int} : am_u2 (am_u2 (am_u2 (am_u1 I 228 r) 208 38 0) 208 38 1) 228 m v = am_u2 (am_u1 I 228 (am_u1 r m v)) 208 38 1 := by
  rw [u2_u2, u2_sw (q := 208) (q' := 228) (by decide), u2_u1]
theorem l_rkL {d : Nat} {G : am_G} {I : Nat → Nat → Int} {P : Nat → Nat → Option Nat} {fi : Int} {op arg : Nat → Int} {wv : Int → Int → Option Int} {last : Nat} {Q : am_O → Prop} {res : Option (Nat × (Nat → Int))} (hS : ST G P) (h20 : I 208 20 = 0) {lw : Nat} (h34 : I 208 34 = (lw : Int)) (hlw : lw + 900 ≤ 5500) (hop : ∀ k, k < last → I 210 (lw + 98 + 2 * k) = op k ∧ I 210 (lw + 98 + 2 * k + 1) = arg k) (hlast : last ≤ 400) (hwv : ∀ o a v, wv o a = some v → 1 ≤ o → o < 20 → o < 13 ∧ I 226 o.toNat = v) (hQ1 : ∀ (n : Nat) (k : Nat) (r : Nat → Int) (e : Nat → Option am_V), res = some (n, r) → am_ex (am_call am_B am_M (d + 3)) (am_B 228) (am_B 228 40) [some (.inr (.inr (some 208))), some (.inl fi), some (.inl (last : Int)), some (.inl (n : Int)), some (.inl (k : Int)), e 5, e 6] [] (G, am_u2 (am_u1 I 228 r) 208 38 0, P) Q) (hQ0 : ∀ (n : Nat) (k : Nat) (r : Nat → Int) (e : Nat → Option am_V), n ≤ 400 → res = none → am_ex (am_call am_B am_M (d + 3)) (am_B 228) (am_B 228 40) [some (.inr (.inr (some 208))), some (.inl fi), some (.inl (last : Int)), some (.inl (n : Int)), some (.inl (k : Int)), e 5, e 6] [] (G, am_u2 (am_u1 I 228 r) 208 38 1, P) Q) : ∀ (f k n : Nat) (r : Nat → Int) (e : Nat → Option am_V), rk op arg wv last f k n r = some res → (∀ j, j < n → -1000000000 ≤ r j ∧ r j ≤ 1000000000) → am_ex (am_call am_B am_M (d + 3)) (am_B 228) (am_B 228 1) [some (.inr (.inr (some 208))), some (.inl fi), some (.inl (last : Int)), some (.inl (n : Int)), some (.inl (k : Int)), e 5, e 6] [] (G, (am_u2 (am_u1 I 228 r) 208 38 0), P) Q
  | 0, k, n, r, e, hrk, _ => by simp [rk] at hrk
  | f + 1, k, n, r, e, hrk, hb => by
    rw [rk] at hrk
    by_cases hkl : last ≤ k
    · rw [if_pos hkl] at hrk
      have hres : res = some (n, r) := (Option.some.inj hrk).symm
      refine (ex_4_4 (ex_4_2 ?_))
      refine ex_ic3 (fun hc13 => ?_) (fun hc13 => by exfalso; omega)
      exact hQ1 n k r (fun k_ => ([some (.inr (.inr (some 208))), some (.inl fi), some (.inl (last : Int)), some (.inl (n : Int)), some (.inl (k : Int)), (e 5), (e 6)] : am_L).getD k_ none) hres
    · rw [if_neg hkl] at hrk
      have hkl : k < last := by omega
      by_cases h20o : op k < 20
      · rw [if_pos h20o] at hrk
        by_cases hg : 0 ≤ op k ∧ n < 400 ∧ rkok (rkv wv (op k) (arg k)) = true
        · rw [if_pos hg] at hrk
          obtain ⟨g0, g1, g2⟩ := hg
          obtain ⟨v, hv, hvb⟩ : ∃ v, rkv wv (op k) (arg k) = some v ∧ (-1000000000 ≤ v ∧ v ≤ 1000000000) := by
            unfold rkok at g2
            split at g2
            · rename_i v hv; exact ⟨v, hv, of_decide_eq_true g2⟩
            · cases g2
          rw [hv] at hrk
          have hrk : rk op arg wv last f (k + 1) (n + 1) (am_u1 r n v) = some res := hrk
          have hbn : ∀ j, j < n + 1 → -1000000000 ≤ am_u1 r n v j ∧ am_u1 r n v j ≤ 1000000000 := by
            intro j hj
            unfold am_u1
            split
            · exact hvb
            · exact hb j (by omega)
          by_cases ho0 : op k = 0
          · have hav : arg k = v := by unfold rkv at hv; rw [if_pos ho0] at hv; exact Option.some.inj hv
            refine (ex_4_4 (ex_4_2 ?_))
            refine ex_ic3 (fun hc13 => by exfalso; omega) (fun hc13 => ?_)
            refine (ex_6_0 (ix_41i (sh_208 hS) u2_e (ex_if1 (fun hc => by exfalso; revert hc; decide) (fun _ => ?_))))
            refine (ex_6_0 (ix_41i (sh_208 hS) ((u2_k (by decide)).trans (((u1_qk (by decide))).trans h20)) (ex_if0 (fun _ => ?_) (fun hc => by exfalso; revert hc; decide))))
            refine (ex_6_0 (ix_41r (sh_208 hS) (pt_208_3 hS) (ex_6_0 (ix_41i (sh_208 hS) ((u2_k (by decide)).trans (((u1_qk (by decide))).trans h34)) (ex_0 (ex_add ⟨by omega, by omega⟩ (ex_0 (ex_4_4 (ex_mul ⟨by omega, by omega⟩ (ex_add ⟨by omega, by omega⟩ (ix_30 (j := ((lw + 98) + (2 * k))) (sh_210 hS) (by omega) (by omega) (by omega) ((u2_q (by decide)).trans (((u1_qk (by decide))).trans (hop k hkl).1)) (ex_58 (ex_7_5 rfl (ex_6_0 (ix_41i (sh_208 hS) ((u2_k (by decide)).trans (((u1_qk (by decide))).trans h20)) (ex_if0 (fun _ => ?_) (fun hc => by exfalso; revert hc; decide)))))))))))))))))
            refine (ex_6_0 (ix_41r (sh_208 hS) (pt_208_3 hS) (ex_6_0 (ix_41i (sh_208 hS) ((u2_k (by decide)).trans (((u1_qk (by decide))).trans h34)) (ex_0 (ex_add ⟨by omega, by omega⟩ (ex_0 (ex_4_4 (ex_mul ⟨by omega, by omega⟩ (ex_add ⟨by omega, by omega⟩ (ex_0 (ex_add ⟨by omega, by omega⟩ (ix_30 (j := (((lw + 98) + (2 * k)) + 1)) (sh_210 hS) (by omega) (by omega) (by omega) ((u2_q (by decide)).trans (((u1_qk (by decide))).trans ((hop k hkl).2.trans hav))) (ex_58 (ex_7_6 rfl (ex_10_4 ⟨by omega, by omega⟩ rfl (ex_4_5 (ex_0 ?_))))))))))))))))))
            refine ex_ic3 (fun hc104 => by exfalso; omega) (fun hc104 => ?_)
            refine (ex_6_0 (ix_41r (sh_208 hS) (pt_208_37 hS) (ex_4_3 (ex_4_5 ?_))))
            refine ex_if1 (fun hc114 => by exact absurd ho0 hc114) (fun hc114 => ?_)
            refine (ex_4_6 (ex_19 (ex_28 (ix_36 (j := n) (sh_228 hS) (by omega) (by omega) (by omega) (ex_10_3 ⟨by omega, by omega⟩ rfl (ex_28 (ex_28 ?_)))))))
            rw [u2_sw (q := 208) (q' := 228) (by decide), u2_u1]
            exact l_rkL hS h20 h34 hlw hop hlast hwv hQ1 hQ0 f (k + 1) (n + 1) (am_u1 r n v) (fun k_ => ([some (.inr (.inr (some 208))), some (.inl fi), some (.inl (last : Int)), some (.inl ((n : Int) + 1)), some (.inl ((k : Int) + 1)), some (.inl (op k)), some (.inl v)] : am_L).getD k_ none) hrk hbn
          · have hwv0 : wv (op k) (arg k) = some v := by unfold rkv at hv; rw [if_neg ho0] at hv; exact hv
            have hw := hwv _ _ _ hwv0 (by omega) h20o
            obtain ⟨hw1, hw2⟩ := hw
            refine (ex_4_4 (ex_4_2 ?_))
            refine ex_ic3 (fun hc13 => by exfalso; omega) (fun hc13 => ?_)
            refine (ex_6_0 (ix_41i (sh_208 hS) u2_e (ex_if1 (fun hc => by exfalso; revert hc; decide) (fun _ => ?_))))
            refine (ex_6_0 (ix_41i (sh_208 hS) ((u2_k (by decide)).trans (((u1_qk (by decide))).trans h20)) (ex_if0 (fun _ => ?_) (fun hc => by exfalso; revert hc; decide))))
            refine (ex_6_0 (ix_41r (sh_208 hS) (pt_208_3 hS) (ex_6_0 (ix_41i (sh_208 hS) ((u2_k (by decide)).trans (((u1_qk (by decide))).trans h34)) (ex_0 (ex_add ⟨by omega, by omega⟩ (ex_0 (ex_4_4 (ex_mul ⟨by omega, by omega⟩ (ex_add ⟨by omega, by omega⟩ (ix_30 (j := ((lw + 98) + (2 * k))) (sh_210 hS) (by omega) (by omega) (by omega) ((u2_q (by decide)).trans (((u1_qk (by decide))).trans (hop k hkl).1)) (ex_58 (ex_7_5 rfl (ex_6_0 (ix_41i (sh_208 hS) ((u2_k (by decide)).trans (((u1_qk (by decide))).trans h20)) (ex_if0 (fun _ => ?_) (fun hc => by exfalso; revert hc; decide)))))))))))))))))
            refine (ex_6_0 (ix_41r (sh_208 hS) (pt_208_3 hS) (ex_6_0 (ix_41i (sh_208 hS) ((u2_k (by decide)).trans (((u1_qk (by decide))).trans h34)) (ex_0 (ex_add ⟨by omega, by omega⟩ (ex_0 (ex_4_4 (ex_mul ⟨by omega, by omega⟩ (ex_add ⟨by omega, by omega⟩ (ex_0 (ex_add ⟨by omega, by omega⟩ (ix_30 (j := (((lw + 98) + (2 * k)) + 1)) (sh_210 hS) (by omega) (by omega) (by omega) ((u2_q (by decide)).trans (((u1_qk (by decide))).trans (hop k hkl).2)) (ex_58 (ex_7_6 rfl (ex_10_4 ⟨by omega, by omega⟩ rfl (ex_4_5 (ex_0 ?_))))))))))))))))))
            refine ex_ic3 (fun hc104 => by exfalso; omega) (fun hc104 => ?_)
            refine (ex_6_0 (ix_41r (sh_208 hS) (pt_208_37 hS) (ex_4_3 (ex_4_5 ?_))))
            refine ex_if1 (fun hc114 => ?_) (fun hc114 => by exact absurd hc114 ho0)
            refine (ex_6_0 (ix_41i (sh_208 hS) ((u2_k (by decide)).trans (((u1_qk (by decide))).trans h20)) (ex_if1 (fun hc => by exfalso; revert hc; decide) (fun _ => ?_))))
            refine (ex_6_0 (ix_41r (sh_208 hS) (pt_208_35 hS) (ex_4_5 (ix_32 (j := (Int.toNat (op k))) (sh_226 hS) (by omega) (by omega) rfl ((u2_q (by decide)).trans (((u1_qk (by decide))).trans hw2)) (ex_28 (ix_36 (j := n) (sh_228 hS) (by omega) (by omega) (by omega) (ex_10_3 ⟨by omega, by omega⟩ rfl (ex_28 (ex_28 ?_)))))))))
            rw [u2_sw (q := 208) (q' := 228) (by decide), u2_u1]
            exact l_rkL hS h20 h34 hlw hop hlast hwv hQ1 hQ0 f (k + 1) (n + 1) (am_u1 r n v) (fun k_ => ([some (.inr (.inr (some 208))), some (.inl fi), some (.inl (last : Int)), some (.inl ((n : Int) + 1)), some (.inl ((k : Int) + 1)), some (.inl (op k)), some (.inl (arg k))] : am_L).getD k_ none) hrk hbn
        · rw [if_neg hg] at hrk; cases hrk
      · rw [if_neg h20o] at hrk
        by_cases h28o : op k < 28
        · rw [if_pos h28o] at hrk
          by_cases hg : 2 ≤ n ∧ n ≤ 400
          · rw [if_pos hg] at hrk
            obtain ⟨m, rfl⟩ : ∃ m, n = m + 2 := ⟨n - 2, by omega⟩
            rw [show m + 2 - 1 = m + 1 by omega, show m + 2 - 2 = m by omega] at hrk
            have hb0 : rkb (r m) := hb m (by omega)
            have hb1 : rkb (r (m + 1)) := hb (m + 1) (by omega)
            by_cases hz : m_dz (op k) (r (m + 1))
            · rw [if_pos (Or.inl (show (op k = 23 ∨ op k = 24) ∧ r (m + 1) = 0 from hz))] at hrk
              have hres : res = none := (Option.some.inj hrk).symm
              refine (ex_4_4 (ex_4_2 ?_))
              refine ex_ic3 (fun hc13 => by exfalso; omega) (fun hc13 => ?_)
              refine (ex_6_0 (ix_41i (sh_208 hS) u2_e (ex_if1 (fun hc => by exfalso; revert hc; decide) (fun _ => ?_))))
              refine (ex_6_0 (ix_41i (sh_208 hS) ((u2_k (by decide)).trans (((u1_qk (by decide))).trans h20)) (ex_if0 (fun _ => ?_) (fun hc => by exfalso; revert hc; decide))))
              refine (ex_6_0 (ix_41r (sh_208 hS) (pt_208_3 hS) (ex_6_0 (ix_41i (sh_208 hS) ((u2_k (by decide)).trans (((u1_qk (by decide))).trans h34)) (ex_0 (ex_add ⟨by omega, by omega⟩ (ex_0 (ex_4_4 (ex_mul ⟨by omega, by omega⟩ (ex_add ⟨by omega, by omega⟩ (ix_30 (j := ((lw + 98) + (2 * k))) (sh_210 hS) (by omega) (by omega) (by omega) ((u2_q (by decide)).trans (((u1_qk (by decide))).trans (hop k hkl).1)) (ex_58 (ex_7_5 rfl (ex_6_0 (ix_41i (sh_208 hS) ((u2_k (by decide)).trans (((u1_qk (by decide))).trans h20)) (ex_if0 (fun _ => ?_) (fun hc => by exfalso; revert hc; decide)))))))))))))))))
              refine (ex_6_0 (ix_41r (sh_208 hS) (pt_208_3 hS) (ex_6_0 (ix_41i (sh_208 hS) ((u2_k (by decide)).trans (((u1_qk (by decide))).trans h34)) (ex_0 (ex_add ⟨by omega, by omega⟩ (ex_0 (ex_4_4 (ex_mul ⟨by omega, by omega⟩ (ex_add ⟨by omega, by omega⟩ (ex_0 (ex_add ⟨by omega, by omega⟩ (ix_30 (j := (((lw + 98) + (2 * k)) + 1)) (sh_210 hS) (by omega) (by omega) (by omega) ((u2_q (by decide)).trans (((u1_qk (by decide))).trans (hop k hkl).2)) (ex_58 (ex_7_6 rfl (ex_10_4 ⟨by omega, by omega⟩ rfl (ex_4_5 (ex_0 ?_))))))))))))))))))
              refine ex_ic3 (fun hc104 => ?_) (fun hc104 => by exfalso; omega)
              refine (ex_4_5 (ex_0 ?_))
              refine ex_ic3 (fun hc228 => by exfalso; omega) (fun hc228 => ?_)
              refine (ex_10_3 ⟨by omega, by omega⟩ rfl ?_)
              rw [show (((m + 2 : Nat) : Int) + (-1)) = ((m : Int) + 1) from by omega]
              refine (ex_6_0 (ix_41r (sh_208 hS) (pt_208_37 hS) (ex_4_3 (ex_0 (ex_11e (v := (m : Int)) ((am_sub ⟨by omega, by omega⟩).trans (by omega)) (ex_6_0 (ex_4_5 (ex_6_0 (ix_41r (sh_208 hS) (pt_208_37 hS) (ex_4_3 (ex_0 (ex_11e (v := (m : Int)) ((am_sub ⟨by omega, by omega⟩).trans (by omega)) (ix_32 (j := m) (sh_228 hS) (by omega) (by omega) (by omega) ((u2_q (by decide)).trans (congrFun u1_e _)) (ex_6_0 (ix_41r (sh_208 hS) (pt_208_37 hS) (ex_4_3 (ix_32 (j := (m + 1)) (sh_228 hS) (by omega) (by omega) (by omega) ((u2_q (by decide)).trans (congrFun u1_e _)) (ix_46 (S' := [(.inr (.inl 0)), (.inl (m : Int)), (.inr (.inr (some 228)))]) rfl (sh_208 hS) (c_reckon_z hS hb0 hb1 u2_e hz) rfl rfl (ix_36 (j := m) (sh_228 hS) (by omega) (by omega) (by omega) (ex_6_0 (ex_6_0 (ix_41i (sh_208 hS) ((u2_q (by decide)).trans u2_e) (ex_if1 (fun _ => ?_) (fun hc => by exfalso; revert hc; decide))))))))))))))))))))))))
              refine (ex_0 (ex_28 (ix_42z (sh_208 hS) (by decide) (ex_28 (ex_28 ?_)))))
              refine (ex_4_4 (ex_4_2 ?_))
              refine ex_ic3 (fun hc13 => ?_) (fun hc13 => ?_)
              · first | rw [brk_h, u2_u2] | rw [u2_sw (q := 208) (q' := 228) (by decide), u2_u2, u2_u1]
                exact hQ0 (m + 1) (k + 1) (am_u1 r m 0) (fun k_ => ([some (.inr (.inr (some 208))), some (.inl fi), some (.inl (last : Int)), some (.inl ((m : Int) + 1)), some (.inl ((k : Int) + 1)), some (.inl (op k)), some (.inl (arg k))] : am_L).getD k_ none) (by omega) hres
              · refine (ex_6_0 (ix_41i (sh_208 hS) u2_e (ex_if1 (fun _ => ?_) (fun hc => by exfalso; revert hc; decide))))
                first | rw [brk_h, u2_u2] | rw [u2_sw (q := 208) (q' := 228) (by decide), u2_u2, u2_u1]
                exact hQ0 (m + 1) (k + 1) (am_u1 r m 0) (fun k_ => ([some (.inr (.inr (some 208))), some (.inl fi), some (.inl (last : Int)), some (.inl ((m : Int) + 1)), some (.inl ((k : Int) + 1)), some (.inl (op k)), some (.inl (arg k))] : am_L).getD k_ none) (by omega) hres
            · by_cases hbd : -1000000000 ≤ (m_rv (op k) (r m) (r (m + 1))) ∧ (m_rv (op k) (r m) (r (m + 1))) ≤ 1000000000
              · rw [if_neg (by rintro (z | z); exact hz z; exact z hbd)] at hrk
                have hbn : ∀ j, j < m + 1 → -1000000000 ≤ am_u1 r m (m_rv (op k) (r m) (r (m + 1))) j ∧ am_u1 r m (m_rv (op k) (r m) (r (m + 1))) j ≤ 1000000000 := by
                  intro j hj
                  unfold am_u1
                  split
                  · exact hbd
                  · exact hb j (by omega)
                refine (ex_4_4 (ex_4_2 ?_))
                refine ex_ic3 (fun hc13 => by exfalso; omega) (fun hc13 => ?_)
                refine (ex_6_0 (ix_41i (sh_208 hS) u2_e (ex_if1 (fun hc => by exfalso; revert hc; decide) (fun _ => ?_))))
                refine (ex_6_0 (ix_41i (sh_208 hS) ((u2_k (by decide)).trans (((u1_qk (by decide))).trans h20)) (ex_if0 (fun _ => ?_) (fun hc => by exfalso; revert hc; decide))))
                refine (ex_6_0 (ix_41r (sh_208 hS) (pt_208_3 hS) (ex_6_0 (ix_41i (sh_208 hS) ((u2_k (by decide)).trans (((u1_qk (by decide))).trans h34)) (ex_0 (ex_add ⟨by omega, by omega⟩ (ex_0 (ex_4_4 (ex_mul ⟨by omega, by omega⟩ (ex_add ⟨by omega, by omega⟩ (ix_30 (j := ((lw + 98) + (2 * k))) (sh_210 hS) (by omega) (by omega) (by omega) ((u2_q (by decide)).trans (((u1_qk (by decide))).trans (hop k hkl).1)) (ex_58 (ex_7_5 rfl (ex_6_0 (ix_41i (sh_208 hS) ((u2_k (by decide)).trans (((u1_qk (by decide))).trans h20)) (ex_if0 (fun _ => ?_) (fun hc => by exfalso; revert hc; decide)))))))))))))))))
                refine (ex_6_0 (ix_41r (sh_208 hS) (pt_208_3 hS) (ex_6_0 (ix_41i (sh_208 hS) ((u2_k (by decide)).trans (((u1_qk (by decide))).trans h34)) (ex_0 (ex_add ⟨by omega, by omega⟩ (ex_0 (ex_4_4 (ex_mul ⟨by omega, by omega⟩ (ex_add ⟨by omega, by omega⟩ (ex_0 (ex_add ⟨by omega, by omega⟩ (ix_30 (j := (((lw + 98) + (2 * k)) + 1)) (sh_210 hS) (by omega) (by omega) (by omega) ((u2_q (by decide)).trans (((u1_qk (by decide))).trans (hop k hkl).2)) (ex_58 (ex_7_6 rfl (ex_10_4 ⟨by omega, by omega⟩ rfl (ex_4_5 (ex_0 ?_))))))))))))))))))
                refine ex_ic3 (fun hc104 => ?_) (fun hc104 => by exfalso; omega)
                refine (ex_4_5 (ex_0 ?_))
                refine ex_ic3 (fun hc228 => by exfalso; omega) (fun hc228 => ?_)
                refine (ex_10_3 ⟨by omega, by omega⟩ rfl ?_)
                rw [show (((m + 2 : Nat) : Int) + (-1)) = ((m : Int) + 1) from by omega]
                refine (ex_6_0 (ix_41r (sh_208 hS) (pt_208_37 hS) (ex_4_3 (ex_0 (ex_11e (v := (m : Int)) ((am_sub ⟨by omega, by omega⟩).trans (by omega)) (ex_6_0 (ex_4_5 (ex_6_0 (ix_41r (sh_208 hS) (pt_208_37 hS) (ex_4_3 (ex_0 (ex_11e (v := (m : Int)) ((am_sub ⟨by omega, by omega⟩).trans (by omega)) (ix_32 (j := m) (sh_228 hS) (by omega) (by omega) (by omega) ((u2_q (by decide)).trans (congrFun u1_e _)) (ex_6_0 (ix_41r (sh_208 hS) (pt_208_37 hS) (ex_4_3 (ix_32 (j := (m + 1)) (sh_228 hS) (by omega) (by omega) (by omega) ((u2_q (by decide)).trans (congrFun u1_e _)) (ix_46 (S' := [(.inr (.inl (m_rv (op k) (r m) (r (m + 1))))), (.inl (m : Int)), (.inr (.inr (some 228)))]) rfl (sh_208 hS) (c_reckon hS (by omega) hb0 hb1 u2_e hz) rfl rfl (ix_36 (j := m) (sh_228 hS) (by omega) (by omega) (by omega) (ex_6_0 (ex_6_0 (ix_41i (sh_208 hS) ((u2_q (by decide)).trans u2_e) (ex_if1 (fun hc => by exfalso; revert hc; decide) (fun _ => ?_))))))))))))))))))))))))
                refine (ex_6_0 (ix_41r (sh_208 hS) (pt_208_37 hS) (ex_4_3 (ex_0 (ex_11e (v := (m : Int)) ((am_sub ⟨by omega, by omega⟩).trans (by omega)) (ix_32 (j := m) (sh_228 hS) (by omega) (by omega) (by omega) u2_e (ex_1 (ex_1 ?_))))))))
                have hb284 : (((-1000000000) : Int) ≤ (m_rv (op k) (r m) (r (m + 1))) ∧ ((m_rv (op k) (r m) (r (m + 1))) : Int) ≤ 1000000000) := by exact hbd
                refine (ix_45 (S' := [(.inl 1), (.inr (.inr (some 208)))]) rfl (c_in_t hb284) rfl rfl (ex_if1 (fun _ => ?_) (fun hc => by exfalso; revert hc; decide)))
                refine (ex_0 (ex_58 (ix_42z (sh_208 hS) (by decide) (ex_28 (ex_28 ?_)))))
                rw [u2_sw (q := 208) (q' := 228) (by decide), u2_u2, u2_u1]
                exact l_rkL hS h20 h34 hlw hop hlast hwv hQ1 hQ0 f (k + 1) (m + 1) (am_u1 r m (m_rv (op k) (r m) (r (m + 1)))) (fun k_ => ([some (.inr (.inr (some 208))), some (.inl fi), some (.inl (last : Int)), some (.inl ((m : Int) + 1)), some (.inl ((k : Int) + 1)), some (.inl (op k)), some (.inl (arg k))] : am_L).getD k_ none) hrk hbn
              · rw [if_pos (Or.inr hbd)] at hrk
                have hres : res = none := (Option.some.inj hrk).symm
                refine (ex_4_4 (ex_4_2 ?_))
                refine ex_ic3 (fun hc13 => by exfalso; omega) (fun hc13 => ?_)
                refine (ex_6_0 (ix_41i (sh_208 hS) u2_e (ex_if1 (fun hc => by exfalso; revert hc; decide) (fun _ => ?_))))
                refine (ex_6_0 (ix_41i (sh_208 hS) ((u2_k (by decide)).trans (((u1_qk (by decide))).trans h20)) (ex_if0 (fun _ => ?_) (fun hc => by exfalso; revert hc; decide))))
                refine (ex_6_0 (ix_41r (sh_208 hS) (pt_208_3 hS) (ex_6_0 (ix_41i (sh_208 hS) ((u2_k (by decide)).trans (((u1_qk (by decide))).trans h34)) (ex_0 (ex_add ⟨by omega, by omega⟩ (ex_0 (ex_4_4 (ex_mul ⟨by omega, by omega⟩ (ex_add ⟨by omega, by omega⟩ (ix_30 (j := ((lw + 98) + (2 * k))) (sh_210 hS) (by omega) (by omega) (by omega) ((u2_q (by decide)).trans (((u1_qk (by decide))).trans (hop k hkl).1)) (ex_58 (ex_7_5 rfl (ex_6_0 (ix_41i (sh_208 hS) ((u2_k (by decide)).trans (((u1_qk (by decide))).trans h20)) (ex_if0 (fun _ => ?_) (fun hc => by exfalso; revert hc; decide)))))))))))))))))
                refine (ex_6_0 (ix_41r (sh_208 hS) (pt_208_3 hS) (ex_6_0 (ix_41i (sh_208 hS) ((u2_k (by decide)).trans (((u1_qk (by decide))).trans h34)) (ex_0 (ex_add ⟨by omega, by omega⟩ (ex_0 (ex_4_4 (ex_mul ⟨by omega, by omega⟩ (ex_add ⟨by omega, by omega⟩ (ex_0 (ex_add ⟨by omega, by omega⟩ (ix_30 (j := (((lw + 98) + (2 * k)) + 1)) (sh_210 hS) (by omega) (by omega) (by omega) ((u2_q (by decide)).trans (((u1_qk (by decide))).trans (hop k hkl).2)) (ex_58 (ex_7_6 rfl (ex_10_4 ⟨by omega, by omega⟩ rfl (ex_4_5 (ex_0 ?_))))))))))))))))))
                refine ex_ic3 (fun hc104 => ?_) (fun hc104 => by exfalso; omega)
                refine (ex_4_5 (ex_0 ?_))
                refine ex_ic3 (fun hc228 => by exfalso; omega) (fun hc228 => ?_)
                refine (ex_10_3 ⟨by omega, by omega⟩ rfl ?_)
                rw [show (((m + 2 : Nat) : Int) + (-1)) = ((m : Int) + 1) from by omega]
                refine (ex_6_0 (ix_41r (sh_208 hS) (pt_208_37 hS) (ex_4_3 (ex_0 (ex_11e (v := (m : Int)) ((am_sub ⟨by omega, by omega⟩).trans (by omega)) (ex_6_0 (ex_4_5 (ex_6_0 (ix_41r (sh_208 hS) (pt_208_37 hS) (ex_4_3 (ex_0 (ex_11e (v := (m : Int)) ((am_sub ⟨by omega, by omega⟩).trans (by omega)) (ix_32 (j := m) (sh_228 hS) (by omega) (by omega) (by omega) ((u2_q (by decide)).trans (congrFun u1_e _)) (ex_6_0 (ix_41r (sh_208 hS) (pt_208_37 hS) (ex_4_3 (ix_32 (j := (m + 1)) (sh_228 hS) (by omega) (by omega) (by omega) ((u2_q (by decide)).trans (congrFun u1_e _)) (ix_46 (S' := [(.inr (.inl (m_rv (op k) (r m) (r (m + 1))))), (.inl (m : Int)), (.inr (.inr (some 228)))]) rfl (sh_208 hS) (c_reckon hS (by omega) hb0 hb1 u2_e hz) rfl rfl (ix_36 (j := m) (sh_228 hS) (by omega) (by omega) (by omega) (ex_6_0 (ex_6_0 (ix_41i (sh_208 hS) ((u2_q (by decide)).trans u2_e) (ex_if1 (fun hc => by exfalso; revert hc; decide) (fun _ => ?_))))))))))))))))))))))))
                refine (ex_6_0 (ix_41r (sh_208 hS) (pt_208_37 hS) (ex_4_3 (ex_0 (ex_11e (v := (m : Int)) ((am_sub ⟨by omega, by omega⟩).trans (by omega)) (ix_32 (j := m) (sh_228 hS) (by omega) (by omega) (by omega) u2_e (ex_1 (ex_1 ?_))))))))
                have hb284 : ¬ ((((-1000000000) : Int) ≤ (m_rv (op k) (r m) (r (m + 1))) ∧ ((m_rv (op k) (r m) (r (m + 1))) : Int) ≤ 1000000000)) := by exact hbd
                refine (ix_45 (S' := [(.inl 0), (.inr (.inr (some 208)))]) rfl (c_in_f hb284) rfl rfl (ex_if1 (fun hc => by exfalso; revert hc; decide) (fun _ => ?_)))
                refine (ex_0 (ex_28 (ix_42z (sh_208 hS) (by decide) (ex_28 (ex_28 ?_)))))
                refine (ex_4_4 (ex_4_2 ?_))
                refine ex_ic3 (fun hc13 => ?_) (fun hc13 => ?_)
                · first | rw [brk_h, u2_u2] | rw [u2_sw (q := 208) (q' := 228) (by decide), u2_u2, u2_u1]
                  exact hQ0 (m + 1) (k + 1) (am_u1 r m (m_rv (op k) (r m) (r (m + 1)))) (fun k_ => ([some (.inr (.inr (some 208))), some (.inl fi), some (.inl (last : Int)), some (.inl ((m : Int) + 1)), some (.inl ((k : Int) + 1)), some (.inl (op k)), some (.inl (arg k))] : am_L).getD k_ none) (by omega) hres
                · refine (ex_6_0 (ix_41i (sh_208 hS) u2_e (ex_if1 (fun _ => ?_) (fun hc => by exfalso; revert hc; decide))))
                  first | rw [brk_h, u2_u2] | rw [u2_sw (q := 208) (q' := 228) (by decide), u2_u2, u2_u1]
                  exact hQ0 (m + 1) (k + 1) (am_u1 r m (m_rv (op k) (r m) (r (m + 1)))) (fun k_ => ([some (.inr (.inr (some 208))), some (.inl fi), some (.inl (last : Int)), some (.inl ((m : Int) + 1)), some (.inl ((k : Int) + 1)), some (.inl (op k)), some (.inl (arg k))] : am_L).getD k_ none) (by omega) hres
          · rw [if_neg hg] at hrk; cases hrk
        · rw [if_neg h28o] at hrk
          by_cases h28e : op k = 28
          · rw [if_pos h28e] at hrk
            by_cases hg : (1 ≤ n ∧ n ≤ 400) ∧ (r (n - 1) = 0 ∨ r (n - 1) = 1)
            · rw [if_pos hg] at hrk
              obtain ⟨m, rfl⟩ : ∃ m, n = m + 1 := ⟨n - 1, by omega⟩
              rw [show m + 1 - 1 = m by omega] at hrk hg
              have hbn : ∀ j, j < m + 1 → -1000000000 ≤ am_u1 r m (1 - r m) j ∧ am_u1 r m (1 - r m) j ≤ 1000000000 := by
                intro j hj
                unfold am_u1
                split
                · omega
                · exact hb j (by omega)
              refine (ex_4_4 (ex_4_2 ?_))
              refine ex_ic3 (fun hc13 => by exfalso; omega) (fun hc13 => ?_)
              refine (ex_6_0 (ix_41i (sh_208 hS) u2_e (ex_if1 (fun hc => by exfalso; revert hc; decide) (fun _ => ?_))))
              refine (ex_6_0 (ix_41i (sh_208 hS) ((u2_k (by decide)).trans (((u1_qk (by decide))).trans h20)) (ex_if0 (fun _ => ?_) (fun hc => by exfalso; revert hc; decide))))
              refine (ex_6_0 (ix_41r (sh_208 hS) (pt_208_3 hS) (ex_6_0 (ix_41i (sh_208 hS) ((u2_k (by decide)).trans (((u1_qk (by decide))).trans h34)) (ex_0 (ex_add ⟨by omega, by omega⟩ (ex_0 (ex_4_4 (ex_mul ⟨by omega, by omega⟩ (ex_add ⟨by omega, by omega⟩ (ix_30 (j := ((lw + 98) + (2 * k))) (sh_210 hS) (by omega) (by omega) (by omega) ((u2_q (by decide)).trans (((u1_qk (by decide))).trans (hop k hkl).1)) (ex_58 (ex_7_5 rfl (ex_6_0 (ix_41i (sh_208 hS) ((u2_k (by decide)).trans (((u1_qk (by decide))).trans h20)) (ex_if0 (fun _ => ?_) (fun hc => by exfalso; revert hc; decide)))))))))))))))))
              refine (ex_6_0 (ix_41r (sh_208 hS) (pt_208_3 hS) (ex_6_0 (ix_41i (sh_208 hS) ((u2_k (by decide)).trans (((u1_qk (by decide))).trans h34)) (ex_0 (ex_add ⟨by omega, by omega⟩ (ex_0 (ex_4_4 (ex_mul ⟨by omega, by omega⟩ (ex_add ⟨by omega, by omega⟩ (ex_0 (ex_add ⟨by omega, by omega⟩ (ix_30 (j := (((lw + 98) + (2 * k)) + 1)) (sh_210 hS) (by omega) (by omega) (by omega) ((u2_q (by decide)).trans (((u1_qk (by decide))).trans (hop k hkl).2)) (ex_58 (ex_7_6 rfl (ex_10_4 ⟨by omega, by omega⟩ rfl (ex_4_5 (ex_0 ?_))))))))))))))))))
              refine ex_ic3 (fun hc104 => ?_) (fun hc104 => by exfalso; omega)
              refine (ex_4_5 (ex_0 ?_))
              refine ex_ic3 (fun hc228 => ?_) (fun hc228 => by exfalso; omega)
              refine (ex_4_5 (ex_0 ?_))
              refine ex_ic1 (fun hc305 => by exact absurd h28e hc305) (fun hc305 => ?_)
              refine (ex_6_0 (ix_41r (sh_208 hS) (pt_208_37 hS) (ex_4_3 (ex_0 (ex_11e (v := (m : Int)) ((am_sub ⟨by omega, by omega⟩).trans (by omega)) (ex_1 (ex_6_0 (ix_41r (sh_208 hS) (pt_208_37 hS) (ex_4_3 (ex_0 (ex_11e (v := (m : Int)) ((am_sub ⟨by omega, by omega⟩).trans (by omega)) (ix_32 (j := m) (sh_228 hS) (by omega) (by omega) (by omega) ((u2_q (by decide)).trans (congrFun u1_e _)) (ex_lsub ⟨by omega, by omega⟩ (ix_36 (j := m) (sh_228 hS) (by omega) (by omega) (by omega) (ex_28 (ex_28 ?_))))))))))))))))
              rw [u2_sw (q := 208) (q' := 228) (by decide), u2_u1]
              exact l_rkL hS h20 h34 hlw hop hlast hwv hQ1 hQ0 f (k + 1) (m + 1) (am_u1 r m (1 - r m)) (fun k_ => ([some (.inr (.inr (some 208))), some (.inl fi), some (.inl (last : Int)), some (.inl ((m + 1 : Nat) : Int)), some (.inl ((k : Int) + 1)), some (.inl (op k)), some (.inl (arg k))] : am_L).getD k_ none) hrk hbn
            · rw [if_neg hg] at hrk; cases hrk
          · rw [if_neg h28e] at hrk
            by_cases hg : (1 ≤ n ∧ n ≤ 400) ∧ 0 ≤ arg k ∧ arg k ≤ 400
            · rw [if_pos hg] at hrk
              obtain ⟨m, rfl⟩ : ∃ m, n = m + 1 := ⟨n - 1, by omega⟩
              rw [show m + 1 - 1 = m by omega] at hrk
              obtain ⟨ak, hak⟩ : ∃ a : Nat, arg k = (a : Int) := ⟨(arg k).toNat, by omega⟩
              have hbm : ∀ j, j < m → -1000000000 ≤ r j ∧ r j ≤ 1000000000 := fun j hj => hb j (by omega)
              by_cases h29 : op k = 29
              · rw [if_pos h29] at hrk
                by_cases hj : r m = 0
                · rw [if_pos hj, hak, Int.toNat_natCast] at hrk
                  refine (ex_4_4 (ex_4_2 ?_))
                  refine ex_ic3 (fun hc13 => by exfalso; omega) (fun hc13 => ?_)
                  refine (ex_6_0 (ix_41i (sh_208 hS) u2_e (ex_if1 (fun hc => by exfalso; revert hc; decide) (fun _ => ?_))))
                  refine (ex_6_0 (ix_41i (sh_208 hS) ((u2_k (by decide)).trans (((u1_qk (by decide))).trans h20)) (ex_if0 (fun _ => ?_) (fun hc => by exfalso; revert hc; decide))))
                  refine (ex_6_0 (ix_41r (sh_208 hS) (pt_208_3 hS) (ex_6_0 (ix_41i (sh_208 hS) ((u2_k (by decide)).trans (((u1_qk (by decide))).trans h34)) (ex_0 (ex_add ⟨by omega, by omega⟩ (ex_0 (ex_4_4 (ex_mul ⟨by omega, by omega⟩ (ex_add ⟨by omega, by omega⟩ (ix_30 (j := ((lw + 98) + (2 * k))) (sh_210 hS) (by omega) (by omega) (by omega) ((u2_q (by decide)).trans (((u1_qk (by decide))).trans (hop k hkl).1)) (ex_58 (ex_7_5 rfl (ex_6_0 (ix_41i (sh_208 hS) ((u2_k (by decide)).trans (((u1_qk (by decide))).trans h20)) (ex_if0 (fun _ => ?_) (fun hc => by exfalso; revert hc; decide)))))))))))))))))
                  refine (ex_6_0 (ix_41r (sh_208 hS) (pt_208_3 hS) (ex_6_0 (ix_41i (sh_208 hS) ((u2_k (by decide)).trans (((u1_qk (by decide))).trans h34)) (ex_0 (ex_add ⟨by omega, by omega⟩ (ex_0 (ex_4_4 (ex_mul ⟨by omega, by omega⟩ (ex_add ⟨by omega, by omega⟩ (ex_0 (ex_add ⟨by omega, by omega⟩ (ix_30 (j := (((lw + 98) + (2 * k)) + 1)) (sh_210 hS) (by omega) (by omega) (by omega) ((u2_q (by decide)).trans (((u1_qk (by decide))).trans (hop k hkl).2)) (ex_58 (ex_7_6 rfl (ex_10_4 ⟨by omega, by omega⟩ rfl (ex_4_5 (ex_0 ?_))))))))))))))))))
                  refine ex_ic3 (fun hc104 => ?_) (fun hc104 => by exfalso; omega)
                  refine (ex_4_5 (ex_0 ?_))
                  refine ex_ic3 (fun hc228 => ?_) (fun hc228 => by exfalso; omega)
                  refine (ex_4_5 (ex_0 ?_))
                  refine ex_ic1 (fun hc305 => ?_) (fun hc305 => by exact absurd hc305 h28e)
                  refine (ex_6_0 (ix_41r (sh_208 hS) (pt_208_37 hS) (ex_4_3 (ex_0 (ex_11e (v := (m : Int)) ((am_sub ⟨by omega, by omega⟩).trans (by omega)) (ix_32 (j := m) (sh_228 hS) (by omega) (by omega) (by omega) ((u2_q (by decide)).trans (congrFun u1_e _)) (ex_4_5 (ex_0 ?_))))))))
                  refine ex_ic1 (fun hc341 => by exact absurd h29 hc341) (fun hc341 => ?_)
                  refine (ex_1 (ex_28 ?_))
                  refine ex_lc1 (fun hc350 => by exact absurd hj hc350) (fun hc350 => ?_)
                  refine (ex_4_6 (ex_7_4 rfl (ex_28 (ex_28 ?_))))
                  rw [hak]
                  exact l_rkL hS h20 h34 hlw hop hlast hwv hQ1 hQ0 f ak (m + 1) r (fun k_ => ([some (.inr (.inr (some 208))), some (.inl fi), some (.inl (last : Int)), some (.inl ((m + 1 : Nat) : Int)), some (.inl (ak : Int)), some (.inl (op k)), some (.inl (ak : Int))] : am_L).getD k_ none) hrk hb
                · rw [if_neg hj] at hrk
                  refine (ex_4_4 (ex_4_2 ?_))
                  refine ex_ic3 (fun hc13 => by exfalso; omega) (fun hc13 => ?_)
                  refine (ex_6_0 (ix_41i (sh_208 hS) u2_e (ex_if1 (fun hc => by exfalso; revert hc; decide) (fun _ => ?_))))
                  refine (ex_6_0 (ix_41i (sh_208 hS) ((u2_k (by decide)).trans (((u1_qk (by decide))).trans h20)) (ex_if0 (fun _ => ?_) (fun hc => by exfalso; revert hc; decide))))
                  refine (ex_6_0 (ix_41r (sh_208 hS) (pt_208_3 hS) (ex_6_0 (ix_41i (sh_208 hS) ((u2_k (by decide)).trans (((u1_qk (by decide))).trans h34)) (ex_0 (ex_add ⟨by omega, by omega⟩ (ex_0 (ex_4_4 (ex_mul ⟨by omega, by omega⟩ (ex_add ⟨by omega, by omega⟩ (ix_30 (j := ((lw + 98) + (2 * k))) (sh_210 hS) (by omega) (by omega) (by omega) ((u2_q (by decide)).trans (((u1_qk (by decide))).trans (hop k hkl).1)) (ex_58 (ex_7_5 rfl (ex_6_0 (ix_41i (sh_208 hS) ((u2_k (by decide)).trans (((u1_qk (by decide))).trans h20)) (ex_if0 (fun _ => ?_) (fun hc => by exfalso; revert hc; decide)))))))))))))))))
                  refine (ex_6_0 (ix_41r (sh_208 hS) (pt_208_3 hS) (ex_6_0 (ix_41i (sh_208 hS) ((u2_k (by decide)).trans (((u1_qk (by decide))).trans h34)) (ex_0 (ex_add ⟨by omega, by omega⟩ (ex_0 (ex_4_4 (ex_mul ⟨by omega, by omega⟩ (ex_add ⟨by omega, by omega⟩ (ex_0 (ex_add ⟨by omega, by omega⟩ (ix_30 (j := (((lw + 98) + (2 * k)) + 1)) (sh_210 hS) (by omega) (by omega) (by omega) ((u2_q (by decide)).trans (((u1_qk (by decide))).trans (hop k hkl).2)) (ex_58 (ex_7_6 rfl (ex_10_4 ⟨by omega, by omega⟩ rfl (ex_4_5 (ex_0 ?_))))))))))))))))))
                  refine ex_ic3 (fun hc104 => ?_) (fun hc104 => by exfalso; omega)
                  refine (ex_4_5 (ex_0 ?_))
                  refine ex_ic3 (fun hc228 => ?_) (fun hc228 => by exfalso; omega)
                  refine (ex_4_5 (ex_0 ?_))
                  refine ex_ic1 (fun hc305 => ?_) (fun hc305 => by exact absurd hc305 h28e)
                  refine (ex_6_0 (ix_41r (sh_208 hS) (pt_208_37 hS) (ex_4_3 (ex_0 (ex_11e (v := (m : Int)) ((am_sub ⟨by omega, by omega⟩).trans (by omega)) (ix_32 (j := m) (sh_228 hS) (by omega) (by omega) (by omega) ((u2_q (by decide)).trans (congrFun u1_e _)) (ex_4_5 (ex_0 ?_))))))))
                  refine ex_ic1 (fun hc341 => by exact absurd h29 hc341) (fun hc341 => ?_)
                  refine (ex_1 (ex_28 ?_))
                  refine ex_lc1 (fun hc350 => ?_) (fun hc350 => by exact absurd hc350 hj)
                  refine (ex_10_3 ⟨by omega, by omega⟩ rfl ?_)
                  rw [show (((m + 1 : Nat) : Int) + (-1)) = (m : Int) from by omega]
                  refine (ex_58 (ex_28 ?_))
                  exact l_rkL hS h20 h34 hlw hop hlast hwv hQ1 hQ0 f (k + 1) m r (fun k_ => ([some (.inr (.inr (some 208))), some (.inl fi), some (.inl (last : Int)), some (.inl (m : Int)), some (.inl ((k : Int) + 1)), some (.inl (op k)), some (.inl (arg k))] : am_L).getD k_ none) hrk hbm
              · rw [if_neg h29] at hrk
                by_cases hj : r m = 1
                · rw [if_pos hj, hak, Int.toNat_natCast] at hrk
                  refine (ex_4_4 (ex_4_2 ?_))
                  refine ex_ic3 (fun hc13 => by exfalso; omega) (fun hc13 => ?_)
                  refine (ex_6_0 (ix_41i (sh_208 hS) u2_e (ex_if1 (fun hc => by exfalso; revert hc; decide) (fun _ => ?_))))
                  refine (ex_6_0 (ix_41i (sh_208 hS) ((u2_k (by decide)).trans (((u1_qk (by decide))).trans h20)) (ex_if0 (fun _ => ?_) (fun hc => by exfalso; revert hc; decide))))
                  refine (ex_6_0 (ix_41r (sh_208 hS) (pt_208_3 hS) (ex_6_0 (ix_41i (sh_208 hS) ((u2_k (by decide)).trans (((u1_qk (by decide))).trans h34)) (ex_0 (ex_add ⟨by omega, by omega⟩ (ex_0 (ex_4_4 (ex_mul ⟨by omega, by omega⟩ (ex_add ⟨by omega, by omega⟩ (ix_30 (j := ((lw + 98) + (2 * k))) (sh_210 hS) (by omega) (by omega) (by omega) ((u2_q (by decide)).trans (((u1_qk (by decide))).trans (hop k hkl).1)) (ex_58 (ex_7_5 rfl (ex_6_0 (ix_41i (sh_208 hS) ((u2_k (by decide)).trans (((u1_qk (by decide))).trans h20)) (ex_if0 (fun _ => ?_) (fun hc => by exfalso; revert hc; decide)))))))))))))))))
                  refine (ex_6_0 (ix_41r (sh_208 hS) (pt_208_3 hS) (ex_6_0 (ix_41i (sh_208 hS) ((u2_k (by decide)).trans (((u1_qk (by decide))).trans h34)) (ex_0 (ex_add ⟨by omega, by omega⟩ (ex_0 (ex_4_4 (ex_mul ⟨by omega, by omega⟩ (ex_add ⟨by omega, by omega⟩ (ex_0 (ex_add ⟨by omega, by omega⟩ (ix_30 (j := (((lw + 98) + (2 * k)) + 1)) (sh_210 hS) (by omega) (by omega) (by omega) ((u2_q (by decide)).trans (((u1_qk (by decide))).trans (hop k hkl).2)) (ex_58 (ex_7_6 rfl (ex_10_4 ⟨by omega, by omega⟩ rfl (ex_4_5 (ex_0 ?_))))))))))))))))))
                  refine ex_ic3 (fun hc104 => ?_) (fun hc104 => by exfalso; omega)
                  refine (ex_4_5 (ex_0 ?_))
                  refine ex_ic3 (fun hc228 => ?_) (fun hc228 => by exfalso; omega)
                  refine (ex_4_5 (ex_0 ?_))
                  refine ex_ic1 (fun hc305 => ?_) (fun hc305 => by exact absurd hc305 h28e)
                  refine (ex_6_0 (ix_41r (sh_208 hS) (pt_208_37 hS) (ex_4_3 (ex_0 (ex_11e (v := (m : Int)) ((am_sub ⟨by omega, by omega⟩).trans (by omega)) (ix_32 (j := m) (sh_228 hS) (by omega) (by omega) (by omega) ((u2_q (by decide)).trans (congrFun u1_e _)) (ex_4_5 (ex_0 ?_))))))))
                  refine ex_ic1 (fun hc341 => ?_) (fun hc341 => by exact absurd hc341 h29)
                  refine (ex_1 (ex_58 ?_))
                  refine ex_lc1 (fun hc350 => by exact absurd hj hc350) (fun hc350 => ?_)
                  refine (ex_4_6 (ex_7_4 rfl (ex_28 (ex_28 ?_))))
                  rw [hak]
                  exact l_rkL hS h20 h34 hlw hop hlast hwv hQ1 hQ0 f ak (m + 1) r (fun k_ => ([some (.inr (.inr (some 208))), some (.inl fi), some (.inl (last : Int)), some (.inl ((m + 1 : Nat) : Int)), some (.inl (ak : Int)), some (.inl (op k)), some (.inl (ak : Int))] : am_L).getD k_ none) hrk hb
                · rw [if_neg hj] at hrk
                  refine (ex_4_4 (ex_4_2 ?_))
                  refine ex_ic3 (fun hc13 => by exfalso; omega) (fun hc13 => ?_)
                  refine (ex_6_0 (ix_41i (sh_208 hS) u2_e (ex_if1 (fun hc => by exfalso; revert hc; decide) (fun _ => ?_))))
                  refine (ex_6_0 (ix_41i (sh_208 hS) ((u2_k (by decide)).trans (((u1_qk (by decide))).trans h20)) (ex_if0 (fun _ => ?_) (fun hc => by exfalso; revert hc; decide))))
                  refine (ex_6_0 (ix_41r (sh_208 hS) (pt_208_3 hS) (ex_6_0 (ix_41i (sh_208 hS) ((u2_k (by decide)).trans (((u1_qk (by decide))).trans h34)) (ex_0 (ex_add ⟨by omega, by omega⟩ (ex_0 (ex_4_4 (ex_mul ⟨by omega, by omega⟩ (ex_add ⟨by omega, by omega⟩ (ix_30 (j := ((lw + 98) + (2 * k))) (sh_210 hS) (by omega) (by omega) (by omega) ((u2_q (by decide)).trans (((u1_qk (by decide))).trans (hop k hkl).1)) (ex_58 (ex_7_5 rfl (ex_6_0 (ix_41i (sh_208 hS) ((u2_k (by decide)).trans (((u1_qk (by decide))).trans h20)) (ex_if0 (fun _ => ?_) (fun hc => by exfalso; revert hc; decide)))))))))))))))))
                  refine (ex_6_0 (ix_41r (sh_208 hS) (pt_208_3 hS) (ex_6_0 (ix_41i (sh_208 hS) ((u2_k (by decide)).trans (((u1_qk (by decide))).trans h34)) (ex_0 (ex_add ⟨by omega, by omega⟩ (ex_0 (ex_4_4 (ex_mul ⟨by omega, by omega⟩ (ex_add ⟨by omega, by omega⟩ (ex_0 (ex_add ⟨by omega, by omega⟩ (ix_30 (j := (((lw + 98) + (2 * k)) + 1)) (sh_210 hS) (by omega) (by omega) (by omega) ((u2_q (by decide)).trans (((u1_qk (by decide))).trans (hop k hkl).2)) (ex_58 (ex_7_6 rfl (ex_10_4 ⟨by omega, by omega⟩ rfl (ex_4_5 (ex_0 ?_))))))))))))))))))
                  refine ex_ic3 (fun hc104 => ?_) (fun hc104 => by exfalso; omega)
                  refine (ex_4_5 (ex_0 ?_))
                  refine ex_ic3 (fun hc228 => ?_) (fun hc228 => by exfalso; omega)
                  refine (ex_4_5 (ex_0 ?_))
                  refine ex_ic1 (fun hc305 => ?_) (fun hc305 => by exact absurd hc305 h28e)
                  refine (ex_6_0 (ix_41r (sh_208 hS) (pt_208_37 hS) (ex_4_3 (ex_0 (ex_11e (v := (m : Int)) ((am_sub ⟨by omega, by omega⟩).trans (by omega)) (ix_32 (j := m) (sh_228 hS) (by omega) (by omega) (by omega) ((u2_q (by decide)).trans (congrFun u1_e _)) (ex_4_5 (ex_0 ?_))))))))
                  refine ex_ic1 (fun hc341 => ?_) (fun hc341 => by exact absurd hc341 h29)
                  refine (ex_1 (ex_58 ?_))
                  refine ex_lc1 (fun hc350 => ?_) (fun hc350 => by exact absurd hc350 hj)
                  refine (ex_10_3 ⟨by omega, by omega⟩ rfl ?_)
                  rw [show (((m + 1 : Nat) : Int) + (-1)) = (m : Int) from by omega]
                  refine (ex_58 (ex_28 ?_))
                  exact l_rkL hS h20 h34 hlw hop hlast hwv hQ1 hQ0 f (k + 1) m r (fun k_ => ([some (.inr (.inr (some 208))), some (.inl fi), some (.inl (last : Int)), some (.inl (m : Int)), some (.inl ((k : Int) + 1)), some (.inl (op k)), some (.inl (arg k))] : am_L).getD k_ none) hrk hbm
            · rw [if_neg hg] at hrk; cases hrk
theorem l_rkO {d : Nat} {G : am_G} {I : Nat → Nat → Int} {P : Nat → Nat → Option Nat} {fi : Int} {op arg : Nat → Int} {wv : Int → Int → Option Int} {last : Nat} {Q : am_O → Prop} {res : Option (Nat × (Nat → Int))} (hS : ST G P) (h20 : I 208 20 = 1) (hop : ∀ k, k < last → I 219 k = op k ∧ I 220 k = arg k) (hlast : last ≤ 400) (h0 : 0 ≤ I 210 0 ∧ I 210 0 ≤ 6) (h1 : 0 ≤ I 210 1 ∧ I 210 1 ≤ 5) (hwv : ∀ o a v, wv o a = some v → 1 ≤ o → o < 20 → (o < 6 ∧ I 227 o.toNat = v) ∨ (o = 6 ∧ 0 ≤ a ∧ a < I 210 0 ∧ I 210 (9 + a.toNat) = v) ∨ (o = 6 ∧ 0 ≤ a ∧ ¬ a < I 210 0 ∧ -1 = v) ∨ (o = 7 ∧ 0 ≤ a ∧ a < I 210 1 ∧ I 210 (15 + a.toNat) = v) ∨ (o = 7 ∧ 0 ≤ a ∧ ¬ a < I 210 1 ∧ -1 = v)) (hQ1 : ∀ (n : Nat) (k : Nat) (r : Nat → Int) (e : Nat → Option am_V), res = some (n, r) → am_ex (am_call am_B am_M (d + 3)) (am_B 228) (am_B 228 40) [some (.inr (.inr (some 208))), some (.inl fi), some (.inl (last : Int)), some (.inl (n : Int)), some (.inl (k : Int)), e 5, e 6] [] (G, am_u2 (am_u1 I 228 r) 208 38 0, P) Q) (hQ0 : ∀ (n : Nat) (k : Nat) (r : Nat → Int) (e : Nat → Option am_V), n ≤ 400 → res = none → am_ex (am_call am_B am_M (d + 3)) (am_B 228) (am_B 228 40) [some (.inr (.inr (some 208))), some (.inl fi), some (.inl (last : Int)), some (.inl (n : Int)), some (.inl (k : Int)), e 5, e 6] [] (G, am_u2 (am_u1 I 228 r) 208 38 1, P) Q) : ∀ (f k n : Nat) (r : Nat → Int) (e : Nat → Option am_V), rk op arg wv last f k n r = some res → (∀ j, j < n → -1000000000 ≤ r j ∧ r j ≤ 1000000000) → am_ex (am_call am_B am_M (d + 3)) (am_B 228) (am_B 228 1) [some (.inr (.inr (some 208))), some (.inl fi), some (.inl (last : Int)), some (.inl (n : Int)), some (.inl (k : Int)), e 5, e 6] [] (G, (am_u2 (am_u1 I 228 r) 208 38 0), P) Q
  | 0, k, n, r, e, hrk, _ => by simp [rk] at hrk
  | f + 1, k, n, r, e, hrk, hb => by
    rw [rk] at hrk
    by_cases hkl : last ≤ k
    · rw [if_pos hkl] at hrk
      have hres : res = some (n, r) := (Option.some.inj hrk).symm
      refine (ex_4_4 (ex_4_2 ?_))
      refine ex_ic3 (fun hc13 => ?_) (fun hc13 => by exfalso; omega)
      exact hQ1 n k r (fun k_ => ([some (.inr (.inr (some 208))), some (.inl fi), some (.inl (last : Int)), some (.inl (n : Int)), some (.inl (k : Int)), (e 5), (e 6)] : am_L).getD k_ none) hres
    · rw [if_neg hkl] at hrk
      have hkl : k < last := by omega
      by_cases h20o : op k < 20
      · rw [if_pos h20o] at hrk
        by_cases hg : 0 ≤ op k ∧ n < 400 ∧ rkok (rkv wv (op k) (arg k)) = true
        · rw [if_pos hg] at hrk
          obtain ⟨g0, g1, g2⟩ := hg
          obtain ⟨v, hv, hvb⟩ : ∃ v, rkv wv (op k) (arg k) = some v ∧ (-1000000000 ≤ v ∧ v ≤ 1000000000) := by
            unfold rkok at g2
            split at g2
            · rename_i v hv; exact ⟨v, hv, of_decide_eq_true g2⟩
            · cases g2
          rw [hv] at hrk
          have hrk : rk op arg wv last f (k + 1) (n + 1) (am_u1 r n v) = some res := hrk
          have hbn : ∀ j, j < n + 1 → -1000000000 ≤ am_u1 r n v j ∧ am_u1 r n v j ≤ 1000000000 := by
            intro j hj
            unfold am_u1
            split
            · exact hvb
            · exact hb j (by omega)
          by_cases ho0 : op k = 0
          · have hav : arg k = v := by unfold rkv at hv; rw [if_pos ho0] at hv; exact Option.some.inj hv
            refine (ex_4_4 (ex_4_2 ?_))
            refine ex_ic3 (fun hc13 => by exfalso; omega) (fun hc13 => ?_)
            refine (ex_6_0 (ix_41i (sh_208 hS) u2_e (ex_if1 (fun hc => by exfalso; revert hc; decide) (fun _ => ?_))))
            refine (ex_6_0 (ix_41i (sh_208 hS) ((u2_k (by decide)).trans (((u1_qk (by decide))).trans h20)) (ex_if0 (fun hc => by exfalso; revert hc; decide) (fun _ => ?_))))
            refine (ex_6_0 (ix_41r (sh_208 hS) (pt_208_24 hS) (ex_4_4 (ix_30 (j := k) (sh_219 hS) (by omega) (by omega) (by omega) ((u2_q (by decide)).trans (((u1_qk (by decide))).trans (hop k hkl).1)) (ex_28 (ex_7_5 rfl (ex_6_0 (ix_41i (sh_208 hS) ((u2_k (by decide)).trans (((u1_qk (by decide))).trans h20)) (ex_if0 (fun hc => by exfalso; revert hc; decide) (fun _ => ?_))))))))))
            refine (ex_6_0 (ix_41r (sh_208 hS) (pt_208_25 hS) (ex_4_4 (ix_30 (j := k) (sh_220 hS) (by omega) (by omega) (by omega) ((u2_q (by decide)).trans (((u1_qk (by decide))).trans ((hop k hkl).2.trans hav))) (ex_28 (ex_7_6 rfl (ex_10_4 ⟨by omega, by omega⟩ rfl (ex_4_5 (ex_0 ?_)))))))))
            refine ex_ic3 (fun hc104 => by exfalso; omega) (fun hc104 => ?_)
            refine (ex_6_0 (ix_41r (sh_208 hS) (pt_208_37 hS) (ex_4_3 (ex_4_5 ?_))))
            refine ex_if1 (fun hc114 => by exact absurd ho0 hc114) (fun hc114 => ?_)
            refine (ex_4_6 (ex_19 (ex_28 (ix_36 (j := n) (sh_228 hS) (by omega) (by omega) (by omega) (ex_10_3 ⟨by omega, by omega⟩ rfl (ex_28 (ex_28 ?_)))))))
            rw [u2_sw (q := 208) (q' := 228) (by decide), u2_u1]
            exact l_rkO hS h20 hop hlast h0 h1 hwv hQ1 hQ0 f (k + 1) (n + 1) (am_u1 r n v) (fun k_ => ([some (.inr (.inr (some 208))), some (.inl fi), some (.inl (last : Int)), some (.inl ((n : Int) + 1)), some (.inl ((k : Int) + 1)), some (.inl (op k)), some (.inl v)] : am_L).getD k_ none) hrk hbn
          · have hwv0 : wv (op k) (arg k) = some v := by unfold rkv at hv; rw [if_neg ho0] at hv; exact hv
            have hw := hwv _ _ _ hwv0 (by omega) h20o
            rcases hw with ⟨hw1, hw2⟩ | ⟨hw1, hw2, hw3, hw4⟩ | ⟨hw1, hw2, hw3, hw4⟩ | ⟨hw1, hw2, hw3, hw4⟩ | ⟨hw1, hw2, hw3, hw4⟩
            · refine (ex_4_4 (ex_4_2 ?_))
              refine ex_ic3 (fun hc13 => by exfalso; omega) (fun hc13 => ?_)
              refine (ex_6_0 (ix_41i (sh_208 hS) u2_e (ex_if1 (fun hc => by exfalso; revert hc; decide) (fun _ => ?_))))
              refine (ex_6_0 (ix_41i (sh_208 hS) ((u2_k (by decide)).trans (((u1_qk (by decide))).trans h20)) (ex_if0 (fun hc => by exfalso; revert hc; decide) (fun _ => ?_))))
              refine (ex_6_0 (ix_41r (sh_208 hS) (pt_208_24 hS) (ex_4_4 (ix_30 (j := k) (sh_219 hS) (by omega) (by omega) (by omega) ((u2_q (by decide)).trans (((u1_qk (by decide))).trans (hop k hkl).1)) (ex_28 (ex_7_5 rfl (ex_6_0 (ix_41i (sh_208 hS) ((u2_k (by decide)).trans (((u1_qk (by decide))).trans h20)) (ex_if0 (fun hc => by exfalso; revert hc; decide) (fun _ => ?_))))))))))
              refine (ex_6_0 (ix_41r (sh_208 hS) (pt_208_25 hS) (ex_4_4 (ix_30 (j := k) (sh_220 hS) (by omega) (by omega) (by omega) ((u2_q (by decide)).trans (((u1_qk (by decide))).trans (hop k hkl).2)) (ex_28 (ex_7_6 rfl (ex_10_4 ⟨by omega, by omega⟩ rfl (ex_4_5 (ex_0 ?_)))))))))
              refine ex_ic3 (fun hc104 => by exfalso; omega) (fun hc104 => ?_)
              refine (ex_6_0 (ix_41r (sh_208 hS) (pt_208_37 hS) (ex_4_3 (ex_4_5 ?_))))
              refine ex_if1 (fun hc114 => ?_) (fun hc114 => by exact absurd hc114 ho0)
              refine (ex_6_0 (ix_41i (sh_208 hS) ((u2_k (by decide)).trans (((u1_qk (by decide))).trans h20)) (ex_if1 (fun _ => ?_) (fun hc => by exfalso; revert hc; decide))))
              refine (ex_4_5 (ex_0 ?_))
              refine ex_ic3 (fun hc144 => by exfalso; omega) (fun hc144 => ?_)
              refine (ex_6_0 (ix_41r (sh_208 hS) (pt_208_36 hS) (ex_4_5 (ix_32 (j := (Int.toNat (op k))) (sh_227 hS) (by omega) (by omega) rfl ((u2_q (by decide)).trans (((u1_qk (by decide))).trans hw2)) (ex_28 (ix_36 (j := n) (sh_228 hS) (by omega) (by omega) (by omega) (ex_10_3 ⟨by omega, by omega⟩ rfl (ex_28 (ex_28 ?_)))))))))
              rw [u2_sw (q := 208) (q' := 228) (by decide), u2_u1]
              exact l_rkO hS h20 hop hlast h0 h1 hwv hQ1 hQ0 f (k + 1) (n + 1) (am_u1 r n v) (fun k_ => ([some (.inr (.inr (some 208))), some (.inl fi), some (.inl (last : Int)), some (.inl ((n : Int) + 1)), some (.inl ((k : Int) + 1)), some (.inl (op k)), some (.inl (arg k))] : am_L).getD k_ none) hrk hbn
            · refine (ex_4_4 (ex_4_2 ?_))
              refine ex_ic3 (fun hc13 => by exfalso; omega) (fun hc13 => ?_)
              refine (ex_6_0 (ix_41i (sh_208 hS) u2_e (ex_if1 (fun hc => by exfalso; revert hc; decide) (fun _ => ?_))))
              refine (ex_6_0 (ix_41i (sh_208 hS) ((u2_k (by decide)).trans (((u1_qk (by decide))).trans h20)) (ex_if0 (fun hc => by exfalso; revert hc; decide) (fun _ => ?_))))
              refine (ex_6_0 (ix_41r (sh_208 hS) (pt_208_24 hS) (ex_4_4 (ix_30 (j := k) (sh_219 hS) (by omega) (by omega) (by omega) ((u2_q (by decide)).trans (((u1_qk (by decide))).trans (hop k hkl).1)) (ex_28 (ex_7_5 rfl (ex_6_0 (ix_41i (sh_208 hS) ((u2_k (by decide)).trans (((u1_qk (by decide))).trans h20)) (ex_if0 (fun hc => by exfalso; revert hc; decide) (fun _ => ?_))))))))))
              refine (ex_6_0 (ix_41r (sh_208 hS) (pt_208_25 hS) (ex_4_4 (ix_30 (j := k) (sh_220 hS) (by omega) (by omega) (by omega) ((u2_q (by decide)).trans (((u1_qk (by decide))).trans (hop k hkl).2)) (ex_28 (ex_7_6 rfl (ex_10_4 ⟨by omega, by omega⟩ rfl (ex_4_5 (ex_0 ?_)))))))))
              refine ex_ic3 (fun hc104 => by exfalso; omega) (fun hc104 => ?_)
              refine (ex_6_0 (ix_41r (sh_208 hS) (pt_208_37 hS) (ex_4_3 (ex_4_5 ?_))))
              refine ex_if1 (fun hc114 => ?_) (fun hc114 => by exact absurd hc114 ho0)
              refine (ex_6_0 (ix_41i (sh_208 hS) ((u2_k (by decide)).trans (((u1_qk (by decide))).trans h20)) (ex_if1 (fun _ => ?_) (fun hc => by exfalso; revert hc; decide))))
              refine (ex_4_5 (ex_0 ?_))
              refine ex_ic3 (fun hc144 => ?_) (fun hc144 => by exfalso; omega)
              refine (ex_4_5 (ex_0 ?_))
              refine ex_ic1 (fun hc161 => by exfalso; omega) (fun hc161 => ?_)
              refine (ex_6_0 (ex_4_6 ?_))
              have hb167 : ((0 : Int) ≤ (arg k) ∧ ((arg k) : Int) < (I 210 0)) := by omega
              refine (ix_46 (S' := [(.inl 1), (.inl (n : Int)), (.inr (.inr (some 228)))]) rfl (sh_208 hS) (c_isCloud_T hS ((u2_q (by decide)).trans ((u1_qk (by decide)))) (by omega) hb167) rfl rfl (ex_if0 (fun hc => by exfalso; revert hc; decide) (fun _ => ?_)))
              refine (ex_6_0 (ix_41r (sh_208 hS) (pt_208_3 hS) (ex_0 (ex_4_6 (ex_11e (v := (((9 + (Int.toNat (arg k))) : Nat) : Int)) ((am_add ⟨by omega, by omega⟩).trans (by omega)) (ix_30 (j := (9 + (Int.toNat (arg k)))) (sh_210 hS) (by omega) (by omega) (by omega) ((u2_q (by decide)).trans (((u1_qk (by decide))).trans hw4)) (ex_28 (ex_19 (ex_28 (ix_36 (j := n) (sh_228 hS) (by omega) (by omega) (by omega) (ex_10_3 ⟨by omega, by omega⟩ rfl (ex_28 (ex_28 ?_)))))))))))))
              rw [u2_sw (q := 208) (q' := 228) (by decide), u2_u1]
              exact l_rkO hS h20 hop hlast h0 h1 hwv hQ1 hQ0 f (k + 1) (n + 1) (am_u1 r n v) (fun k_ => ([some (.inr (.inr (some 208))), some (.inl fi), some (.inl (last : Int)), some (.inl ((n : Int) + 1)), some (.inl ((k : Int) + 1)), some (.inl (op k)), some (.inl (arg k))] : am_L).getD k_ none) hrk hbn
            · subst hw4
              refine (ex_4_4 (ex_4_2 ?_))
              refine ex_ic3 (fun hc13 => by exfalso; omega) (fun hc13 => ?_)
              refine (ex_6_0 (ix_41i (sh_208 hS) u2_e (ex_if1 (fun hc => by exfalso; revert hc; decide) (fun _ => ?_))))
              refine (ex_6_0 (ix_41i (sh_208 hS) ((u2_k (by decide)).trans (((u1_qk (by decide))).trans h20)) (ex_if0 (fun hc => by exfalso; revert hc; decide) (fun _ => ?_))))
              refine (ex_6_0 (ix_41r (sh_208 hS) (pt_208_24 hS) (ex_4_4 (ix_30 (j := k) (sh_219 hS) (by omega) (by omega) (by omega) ((u2_q (by decide)).trans (((u1_qk (by decide))).trans (hop k hkl).1)) (ex_28 (ex_7_5 rfl (ex_6_0 (ix_41i (sh_208 hS) ((u2_k (by decide)).trans (((u1_qk (by decide))).trans h20)) (ex_if0 (fun hc => by exfalso; revert hc; decide) (fun _ => ?_))))))))))
              refine (ex_6_0 (ix_41r (sh_208 hS) (pt_208_25 hS) (ex_4_4 (ix_30 (j := k) (sh_220 hS) (by omega) (by omega) (by omega) ((u2_q (by decide)).trans (((u1_qk (by decide))).trans (hop k hkl).2)) (ex_28 (ex_7_6 rfl (ex_10_4 ⟨by omega, by omega⟩ rfl (ex_4_5 (ex_0 ?_)))))))))
              refine ex_ic3 (fun hc104 => by exfalso; omega) (fun hc104 => ?_)
              refine (ex_6_0 (ix_41r (sh_208 hS) (pt_208_37 hS) (ex_4_3 (ex_4_5 ?_))))
              refine ex_if1 (fun hc114 => ?_) (fun hc114 => by exact absurd hc114 ho0)
              refine (ex_6_0 (ix_41i (sh_208 hS) ((u2_k (by decide)).trans (((u1_qk (by decide))).trans h20)) (ex_if1 (fun _ => ?_) (fun hc => by exfalso; revert hc; decide))))
              refine (ex_4_5 (ex_0 ?_))
              refine ex_ic3 (fun hc144 => ?_) (fun hc144 => by exfalso; omega)
              refine (ex_4_5 (ex_0 ?_))
              refine ex_ic1 (fun hc161 => by exfalso; omega) (fun hc161 => ?_)
              refine (ex_6_0 (ex_4_6 ?_))
              have hb167 : ¬ (((0 : Int) ≤ (arg k) ∧ ((arg k) : Int) < (I 210 0))) := by omega
              refine (ix_46 (S' := [(.inl 0), (.inl (n : Int)), (.inr (.inr (some 228)))]) rfl (sh_208 hS) (c_isCloud_F hS ((u2_q (by decide)).trans ((u1_qk (by decide)))) (by omega) hb167) rfl rfl (ex_if0 (fun _ => ?_) (fun hc => by exfalso; revert hc; decide)))
              refine (ex_0 (ex_58 (ex_19 (ex_28 (ix_36 (j := n) (sh_228 hS) (by omega) (by omega) (by omega) (ex_10_3 ⟨by omega, by omega⟩ rfl (ex_28 (ex_28 ?_))))))))
              rw [u2_sw (q := 208) (q' := 228) (by decide), u2_u1]
              exact l_rkO hS h20 hop hlast h0 h1 hwv hQ1 hQ0 f (k + 1) (n + 1) (am_u1 r n (-1)) (fun k_ => ([some (.inr (.inr (some 208))), some (.inl fi), some (.inl (last : Int)), some (.inl ((n : Int) + 1)), some (.inl ((k : Int) + 1)), some (.inl (op k)), some (.inl (arg k))] : am_L).getD k_ none) hrk hbn
            · refine (ex_4_4 (ex_4_2 ?_))
              refine ex_ic3 (fun hc13 => by exfalso; omega) (fun hc13 => ?_)
              refine (ex_6_0 (ix_41i (sh_208 hS) u2_e (ex_if1 (fun hc => by exfalso; revert hc; decide) (fun _ => ?_))))
              refine (ex_6_0 (ix_41i (sh_208 hS) ((u2_k (by decide)).trans (((u1_qk (by decide))).trans h20)) (ex_if0 (fun hc => by exfalso; revert hc; decide) (fun _ => ?_))))
              refine (ex_6_0 (ix_41r (sh_208 hS) (pt_208_24 hS) (ex_4_4 (ix_30 (j := k) (sh_219 hS) (by omega) (by omega) (by omega) ((u2_q (by decide)).trans (((u1_qk (by decide))).trans (hop k hkl).1)) (ex_28 (ex_7_5 rfl (ex_6_0 (ix_41i (sh_208 hS) ((u2_k (by decide)).trans (((u1_qk (by decide))).trans h20)) (ex_if0 (fun hc => by exfalso; revert hc; decide) (fun _ => ?_))))))))))
              refine (ex_6_0 (ix_41r (sh_208 hS) (pt_208_25 hS) (ex_4_4 (ix_30 (j := k) (sh_220 hS) (by omega) (by omega) (by omega) ((u2_q (by decide)).trans (((u1_qk (by decide))).trans (hop k hkl).2)) (ex_28 (ex_7_6 rfl (ex_10_4 ⟨by omega, by omega⟩ rfl (ex_4_5 (ex_0 ?_)))))))))
              refine ex_ic3 (fun hc104 => by exfalso; omega) (fun hc104 => ?_)
              refine (ex_6_0 (ix_41r (sh_208 hS) (pt_208_37 hS) (ex_4_3 (ex_4_5 ?_))))
              refine ex_if1 (fun hc114 => ?_) (fun hc114 => by exact absurd hc114 ho0)
              refine (ex_6_0 (ix_41i (sh_208 hS) ((u2_k (by decide)).trans (((u1_qk (by decide))).trans h20)) (ex_if1 (fun _ => ?_) (fun hc => by exfalso; revert hc; decide))))
              refine (ex_4_5 (ex_0 ?_))
              refine ex_ic3 (fun hc144 => ?_) (fun hc144 => by exfalso; omega)
              refine (ex_4_5 (ex_0 ?_))
              refine ex_ic1 (fun hc161 => ?_) (fun hc161 => by exfalso; omega)
              refine (ex_6_0 (ex_4_6 ?_))
              have hb194 : ((0 : Int) ≤ (arg k) ∧ ((arg k) : Int) < (I 210 1)) := by omega
              refine (ix_46 (S' := [(.inl 1), (.inl (n : Int)), (.inr (.inr (some 228)))]) rfl (sh_208 hS) (c_isFolk_T hS ((u2_q (by decide)).trans ((u1_qk (by decide)))) (by omega) hb194) rfl rfl (ex_if0 (fun hc => by exfalso; revert hc; decide) (fun _ => ?_)))
              refine (ex_6_0 (ix_41r (sh_208 hS) (pt_208_3 hS) (ex_0 (ex_4_6 (ex_11e (v := (((15 + (Int.toNat (arg k))) : Nat) : Int)) ((am_add ⟨by omega, by omega⟩).trans (by omega)) (ix_30 (j := (15 + (Int.toNat (arg k)))) (sh_210 hS) (by omega) (by omega) (by omega) ((u2_q (by decide)).trans (((u1_qk (by decide))).trans hw4)) (ex_19 (ex_28 (ix_36 (j := n) (sh_228 hS) (by omega) (by omega) (by omega) (ex_10_3 ⟨by omega, by omega⟩ rfl (ex_28 (ex_28 ?_))))))))))))
              rw [u2_sw (q := 208) (q' := 228) (by decide), u2_u1]
              exact l_rkO hS h20 hop hlast h0 h1 hwv hQ1 hQ0 f (k + 1) (n + 1) (am_u1 r n v) (fun k_ => ([some (.inr (.inr (some 208))), some (.inl fi), some (.inl (last : Int)), some (.inl ((n : Int) + 1)), some (.inl ((k : Int) + 1)), some (.inl (op k)), some (.inl (arg k))] : am_L).getD k_ none) hrk hbn
            · subst hw4
              refine (ex_4_4 (ex_4_2 ?_))
              refine ex_ic3 (fun hc13 => by exfalso; omega) (fun hc13 => ?_)
              refine (ex_6_0 (ix_41i (sh_208 hS) u2_e (ex_if1 (fun hc => by exfalso; revert hc; decide) (fun _ => ?_))))
              refine (ex_6_0 (ix_41i (sh_208 hS) ((u2_k (by decide)).trans (((u1_qk (by decide))).trans h20)) (ex_if0 (fun hc => by exfalso; revert hc; decide) (fun _ => ?_))))
              refine (ex_6_0 (ix_41r (sh_208 hS) (pt_208_24 hS) (ex_4_4 (ix_30 (j := k) (sh_219 hS) (by omega) (by omega) (by omega) ((u2_q (by decide)).trans (((u1_qk (by decide))).trans (hop k hkl).1)) (ex_28 (ex_7_5 rfl (ex_6_0 (ix_41i (sh_208 hS) ((u2_k (by decide)).trans (((u1_qk (by decide))).trans h20)) (ex_if0 (fun hc => by exfalso; revert hc; decide) (fun _ => ?_))))))))))
              refine (ex_6_0 (ix_41r (sh_208 hS) (pt_208_25 hS) (ex_4_4 (ix_30 (j := k) (sh_220 hS) (by omega) (by omega) (by omega) ((u2_q (by decide)).trans (((u1_qk (by decide))).trans (hop k hkl).2)) (ex_28 (ex_7_6 rfl (ex_10_4 ⟨by omega, by omega⟩ rfl (ex_4_5 (ex_0 ?_)))))))))
              refine ex_ic3 (fun hc104 => by exfalso; omega) (fun hc104 => ?_)
              refine (ex_6_0 (ix_41r (sh_208 hS) (pt_208_37 hS) (ex_4_3 (ex_4_5 ?_))))
              refine ex_if1 (fun hc114 => ?_) (fun hc114 => by exact absurd hc114 ho0)
              refine (ex_6_0 (ix_41i (sh_208 hS) ((u2_k (by decide)).trans (((u1_qk (by decide))).trans h20)) (ex_if1 (fun _ => ?_) (fun hc => by exfalso; revert hc; decide))))
              refine (ex_4_5 (ex_0 ?_))
              refine ex_ic3 (fun hc144 => ?_) (fun hc144 => by exfalso; omega)
              refine (ex_4_5 (ex_0 ?_))
              refine ex_ic1 (fun hc161 => ?_) (fun hc161 => by exfalso; omega)
              refine (ex_6_0 (ex_4_6 ?_))
              have hb194 : ¬ (((0 : Int) ≤ (arg k) ∧ ((arg k) : Int) < (I 210 1))) := by omega
              refine (ix_46 (S' := [(.inl 0), (.inl (n : Int)), (.inr (.inr (some 228)))]) rfl (sh_208 hS) (c_isFolk_F hS ((u2_q (by decide)).trans ((u1_qk (by decide)))) (by omega) hb194) rfl rfl (ex_if0 (fun _ => ?_) (fun hc => by exfalso; revert hc; decide)))
              refine (ex_1 (ex_58 (ix_36 (j := n) (sh_228 hS) (by omega) (by omega) (by omega) (ex_10_3 ⟨by omega, by omega⟩ rfl (ex_28 (ex_28 ?_))))))
              rw [u2_sw (q := 208) (q' := 228) (by decide), u2_u1]
              exact l_rkO hS h20 hop hlast h0 h1 hwv hQ1 hQ0 f (k + 1) (n + 1) (am_u1 r n (-1)) (fun k_ => ([some (.inr (.inr (some 208))), some (.inl fi), some (.inl (last : Int)), some (.inl ((n : Int) + 1)), some (.inl ((k : Int) + 1)), some (.inl (op k)), some (.inl (arg k))] : am_L).getD k_ none) hrk hbn
        · rw [if_neg hg] at hrk; cases hrk
      · rw [if_neg h20o] at hrk
        by_cases h28o : op k < 28
        · rw [if_pos h28o] at hrk
          by_cases hg : 2 ≤ n ∧ n ≤ 400
          · rw [if_pos hg] at hrk
            obtain ⟨m, rfl⟩ : ∃ m, n = m + 2 := ⟨n - 2, by omega⟩
            rw [show m + 2 - 1 = m + 1 by omega, show m + 2 - 2 = m by omega] at hrk
            have hb0 : rkb (r m) := hb m (by omega)
            have hb1 : rkb (r (m + 1)) := hb (m + 1) (by omega)
            by_cases hz : m_dz (op k) (r (m + 1))
            · rw [if_pos (Or.inl (show (op k = 23 ∨ op k = 24) ∧ r (m + 1) = 0 from hz))] at hrk
              have hres : res = none := (Option.some.inj hrk).symm
              refine (ex_4_4 (ex_4_2 ?_))
              refine ex_ic3 (fun hc13 => by exfalso; omega) (fun hc13 => ?_)
              refine (ex_6_0 (ix_41i (sh_208 hS) u2_e (ex_if1 (fun hc => by exfalso; revert hc; decide) (fun _ => ?_))))
              refine (ex_6_0 (ix_41i (sh_208 hS) ((u2_k (by decide)).trans (((u1_qk (by decide))).trans h20)) (ex_if0 (fun hc => by exfalso; revert hc; decide) (fun _ => ?_))))
              refine (ex_6_0 (ix_41r (sh_208 hS) (pt_208_24 hS) (ex_4_4 (ix_30 (j := k) (sh_219 hS) (by omega) (by omega) (by omega) ((u2_q (by decide)).trans (((u1_qk (by decide))).trans (hop k hkl).1)) (ex_28 (ex_7_5 rfl (ex_6_0 (ix_41i (sh_208 hS) ((u2_k (by decide)).trans (((u1_qk (by decide))).trans h20)) (ex_if0 (fun hc => by exfalso; revert hc; decide) (fun _ => ?_))))))))))
              refine (ex_6_0 (ix_41r (sh_208 hS) (pt_208_25 hS) (ex_4_4 (ix_30 (j := k) (sh_220 hS) (by omega) (by omega) (by omega) ((u2_q (by decide)).trans (((u1_qk (by decide))).trans (hop k hkl).2)) (ex_28 (ex_7_6 rfl (ex_10_4 ⟨by omega, by omega⟩ rfl (ex_4_5 (ex_0 ?_)))))))))
              refine ex_ic3 (fun hc104 => ?_) (fun hc104 => by exfalso; omega)
              refine (ex_4_5 (ex_0 ?_))
              refine ex_ic3 (fun hc228 => by exfalso; omega) (fun hc228 => ?_)
              refine (ex_10_3 ⟨by omega, by omega⟩ rfl ?_)
              rw [show (((m + 2 : Nat) : Int) + (-1)) = ((m : Int) + 1) from by omega]
              refine (ex_6_0 (ix_41r (sh_208 hS) (pt_208_37 hS) (ex_4_3 (ex_0 (ex_11e (v := (m : Int)) ((am_sub ⟨by omega, by omega⟩).trans (by omega)) (ex_6_0 (ex_4_5 (ex_6_0 (ix_41r (sh_208 hS) (pt_208_37 hS) (ex_4_3 (ex_0 (ex_11e (v := (m : Int)) ((am_sub ⟨by omega, by omega⟩).trans (by omega)) (ix_32 (j := m) (sh_228 hS) (by omega) (by omega) (by omega) ((u2_q (by decide)).trans (congrFun u1_e _)) (ex_6_0 (ix_41r (sh_208 hS) (pt_208_37 hS) (ex_4_3 (ix_32 (j := (m + 1)) (sh_228 hS) (by omega) (by omega) (by omega) ((u2_q (by decide)).trans (congrFun u1_e _)) (ix_46 (S' := [(.inr (.inl 0)), (.inl (m : Int)), (.inr (.inr (some 228)))]) rfl (sh_208 hS) (c_reckon_z hS hb0 hb1 u2_e hz) rfl rfl (ix_36 (j := m) (sh_228 hS) (by omega) (by omega) (by omega) (ex_6_0 (ex_6_0 (ix_41i (sh_208 hS) ((u2_q (by decide)).trans u2_e) (ex_if1 (fun _ => ?_) (fun hc => by exfalso; revert hc; decide))))))))))))))))))))))))
              refine (ex_0 (ex_28 (ix_42z (sh_208 hS) (by decide) (ex_28 (ex_28 ?_)))))
              refine (ex_4_4 (ex_4_2 ?_))
              refine ex_ic3 (fun hc13 => ?_) (fun hc13 => ?_)
              · first | rw [brk_h, u2_u2] | rw [u2_sw (q := 208) (q' := 228) (by decide), u2_u2, u2_u1]
                exact hQ0 (m + 1) (k + 1) (am_u1 r m 0) (fun k_ => ([some (.inr (.inr (some 208))), some (.inl fi), some (.inl (last : Int)), some (.inl ((m : Int) + 1)), some (.inl ((k : Int) + 1)), some (.inl (op k)), some (.inl (arg k))] : am_L).getD k_ none) (by omega) hres
              · refine (ex_6_0 (ix_41i (sh_208 hS) u2_e (ex_if1 (fun _ => ?_) (fun hc => by exfalso; revert hc; decide))))
                first | rw [brk_h, u2_u2] | rw [u2_sw (q := 208) (q' := 228) (by decide), u2_u2, u2_u1]
                exact hQ0 (m + 1) (k + 1) (am_u1 r m 0) (fun k_ => ([some (.inr (.inr (some 208))), some (.inl fi), some (.inl (last : Int)), some (.inl ((m : Int) + 1)), some (.inl ((k : Int) + 1)), some (.inl (op k)), some (.inl (arg k))] : am_L).getD k_ none) (by omega) hres
            · by_cases hbd : -1000000000 ≤ (m_rv (op k) (r m) (r (m + 1))) ∧ (m_rv (op k) (r m) (r (m + 1))) ≤ 1000000000
              · rw [if_neg (by rintro (z | z); exact hz z; exact z hbd)] at hrk
                have hbn : ∀ j, j < m + 1 → -1000000000 ≤ am_u1 r m (m_rv (op k) (r m) (r (m + 1))) j ∧ am_u1 r m (m_rv (op k) (r m) (r (m + 1))) j ≤ 1000000000 := by
                  intro j hj
                  unfold am_u1
                  split
                  · exact hbd
                  · exact hb j (by omega)
                refine (ex_4_4 (ex_4_2 ?_))
                refine ex_ic3 (fun hc13 => by exfalso; omega) (fun hc13 => ?_)
                refine (ex_6_0 (ix_41i (sh_208 hS) u2_e (ex_if1 (fun hc => by exfalso; revert hc; decide) (fun _ => ?_))))
                refine (ex_6_0 (ix_41i (sh_208 hS) ((u2_k (by decide)).trans (((u1_qk (by decide))).trans h20)) (ex_if0 (fun hc => by exfalso; revert hc; decide) (fun _ => ?_))))
                refine (ex_6_0 (ix_41r (sh_208 hS) (pt_208_24 hS) (ex_4_4 (ix_30 (j := k) (sh_219 hS) (by omega) (by omega) (by omega) ((u2_q (by decide)).trans (((u1_qk (by decide))).trans (hop k hkl).1)) (ex_28 (ex_7_5 rfl (ex_6_0 (ix_41i (sh_208 hS) ((u2_k (by decide)).trans (((u1_qk (by decide))).trans h20)) (ex_if0 (fun hc => by exfalso; revert hc; decide) (fun _ => ?_))))))))))
                refine (ex_6_0 (ix_41r (sh_208 hS) (pt_208_25 hS) (ex_4_4 (ix_30 (j := k) (sh_220 hS) (by omega) (by omega) (by omega) ((u2_q (by decide)).trans (((u1_qk (by decide))).trans (hop k hkl).2)) (ex_28 (ex_7_6 rfl (ex_10_4 ⟨by omega, by omega⟩ rfl (ex_4_5 (ex_0 ?_)))))))))
                refine ex_ic3 (fun hc104 => ?_) (fun hc104 => by exfalso; omega)
                refine (ex_4_5 (ex_0 ?_))
                refine ex_ic3 (fun hc228 => by exfalso; omega) (fun hc228 => ?_)
                refine (ex_10_3 ⟨by omega, by omega⟩ rfl ?_)
                rw [show (((m + 2 : Nat) : Int) + (-1)) = ((m : Int) + 1) from by omega]
                refine (ex_6_0 (ix_41r (sh_208 hS) (pt_208_37 hS) (ex_4_3 (ex_0 (ex_11e (v := (m : Int)) ((am_sub ⟨by omega, by omega⟩).trans (by omega)) (ex_6_0 (ex_4_5 (ex_6_0 (ix_41r (sh_208 hS) (pt_208_37 hS) (ex_4_3 (ex_0 (ex_11e (v := (m : Int)) ((am_sub ⟨by omega, by omega⟩).trans (by omega)) (ix_32 (j := m) (sh_228 hS) (by omega) (by omega) (by omega) ((u2_q (by decide)).trans (congrFun u1_e _)) (ex_6_0 (ix_41r (sh_208 hS) (pt_208_37 hS) (ex_4_3 (ix_32 (j := (m + 1)) (sh_228 hS) (by omega) (by omega) (by omega) ((u2_q (by decide)).trans (congrFun u1_e _)) (ix_46 (S' := [(.inr (.inl (m_rv (op k) (r m) (r (m + 1))))), (.inl (m : Int)), (.inr (.inr (some 228)))]) rfl (sh_208 hS) (c_reckon hS (by omega) hb0 hb1 u2_e hz) rfl rfl (ix_36 (j := m) (sh_228 hS) (by omega) (by omega) (by omega) (ex_6_0 (ex_6_0 (ix_41i (sh_208 hS) ((u2_q (by decide)).trans u2_e) (ex_if1 (fun hc => by exfalso; revert hc; decide) (fun _ => ?_))))))))))))))))))))))))
                refine (ex_6_0 (ix_41r (sh_208 hS) (pt_208_37 hS) (ex_4_3 (ex_0 (ex_11e (v := (m : Int)) ((am_sub ⟨by omega, by omega⟩).trans (by omega)) (ix_32 (j := m) (sh_228 hS) (by omega) (by omega) (by omega) u2_e (ex_1 (ex_1 ?_))))))))
                have hb284 : (((-1000000000) : Int) ≤ (m_rv (op k) (r m) (r (m + 1))) ∧ ((m_rv (op k) (r m) (r (m + 1))) : Int) ≤ 1000000000) := by exact hbd
                refine (ix_45 (S' := [(.inl 1), (.inr (.inr (some 208)))]) rfl (c_in_t hb284) rfl rfl (ex_if1 (fun _ => ?_) (fun hc => by exfalso; revert hc; decide)))
                refine (ex_0 (ex_58 (ix_42z (sh_208 hS) (by decide) (ex_28 (ex_28 ?_)))))
                rw [u2_sw (q := 208) (q' := 228) (by decide), u2_u2, u2_u1]
                exact l_rkO hS h20 hop hlast h0 h1 hwv hQ1 hQ0 f (k + 1) (m + 1) (am_u1 r m (m_rv (op k) (r m) (r (m + 1)))) (fun k_ => ([some (.inr (.inr (some 208))), some (.inl fi), some (.inl (last : Int)), some (.inl ((m : Int) + 1)), some (.inl ((k : Int) + 1)), some (.inl (op k)), some (.inl (arg k))] : am_L).getD k_ none) hrk hbn
              · rw [if_pos (Or.inr hbd)] at hrk
                have hres : res = none := (Option.some.inj hrk).symm
                refine (ex_4_4 (ex_4_2 ?_))
                refine ex_ic3 (fun hc13 => by exfalso; omega) (fun hc13 => ?_)
                refine (ex_6_0 (ix_41i (sh_208 hS) u2_e (ex_if1 (fun hc => by exfalso; revert hc; decide) (fun _ => ?_))))
                refine (ex_6_0 (ix_41i (sh_208 hS) ((u2_k (by decide)).trans (((u1_qk (by decide))).trans h20)) (ex_if0 (fun hc => by exfalso; revert hc; decide) (fun _ => ?_))))
                refine (ex_6_0 (ix_41r (sh_208 hS) (pt_208_24 hS) (ex_4_4 (ix_30 (j := k) (sh_219 hS) (by omega) (by omega) (by omega) ((u2_q (by decide)).trans (((u1_qk (by decide))).trans (hop k hkl).1)) (ex_28 (ex_7_5 rfl (ex_6_0 (ix_41i (sh_208 hS) ((u2_k (by decide)).trans (((u1_qk (by decide))).trans h20)) (ex_if0 (fun hc => by exfalso; revert hc; decide) (fun _ => ?_))))))))))
                refine (ex_6_0 (ix_41r (sh_208 hS) (pt_208_25 hS) (ex_4_4 (ix_30 (j := k) (sh_220 hS) (by omega) (by omega) (by omega) ((u2_q (by decide)).trans (((u1_qk (by decide))).trans (hop k hkl).2)) (ex_28 (ex_7_6 rfl (ex_10_4 ⟨by omega, by omega⟩ rfl (ex_4_5 (ex_0 ?_)))))))))
                refine ex_ic3 (fun hc104 => ?_) (fun hc104 => by exfalso; omega)
                refine (ex_4_5 (ex_0 ?_))
                refine ex_ic3 (fun hc228 => by exfalso; omega) (fun hc228 => ?_)
                refine (ex_10_3 ⟨by omega, by omega⟩ rfl ?_)
                rw [show (((m + 2 : Nat) : Int) + (-1)) = ((m : Int) + 1) from by omega]
                refine (ex_6_0 (ix_41r (sh_208 hS) (pt_208_37 hS) (ex_4_3 (ex_0 (ex_11e (v := (m : Int)) ((am_sub ⟨by omega, by omega⟩).trans (by omega)) (ex_6_0 (ex_4_5 (ex_6_0 (ix_41r (sh_208 hS) (pt_208_37 hS) (ex_4_3 (ex_0 (ex_11e (v := (m : Int)) ((am_sub ⟨by omega, by omega⟩).trans (by omega)) (ix_32 (j := m) (sh_228 hS) (by omega) (by omega) (by omega) ((u2_q (by decide)).trans (congrFun u1_e _)) (ex_6_0 (ix_41r (sh_208 hS) (pt_208_37 hS) (ex_4_3 (ix_32 (j := (m + 1)) (sh_228 hS) (by omega) (by omega) (by omega) ((u2_q (by decide)).trans (congrFun u1_e _)) (ix_46 (S' := [(.inr (.inl (m_rv (op k) (r m) (r (m + 1))))), (.inl (m : Int)), (.inr (.inr (some 228)))]) rfl (sh_208 hS) (c_reckon hS (by omega) hb0 hb1 u2_e hz) rfl rfl (ix_36 (j := m) (sh_228 hS) (by omega) (by omega) (by omega) (ex_6_0 (ex_6_0 (ix_41i (sh_208 hS) ((u2_q (by decide)).trans u2_e) (ex_if1 (fun hc => by exfalso; revert hc; decide) (fun _ => ?_))))))))))))))))))))))))
                refine (ex_6_0 (ix_41r (sh_208 hS) (pt_208_37 hS) (ex_4_3 (ex_0 (ex_11e (v := (m : Int)) ((am_sub ⟨by omega, by omega⟩).trans (by omega)) (ix_32 (j := m) (sh_228 hS) (by omega) (by omega) (by omega) u2_e (ex_1 (ex_1 ?_))))))))
                have hb284 : ¬ ((((-1000000000) : Int) ≤ (m_rv (op k) (r m) (r (m + 1))) ∧ ((m_rv (op k) (r m) (r (m + 1))) : Int) ≤ 1000000000)) := by exact hbd
                refine (ix_45 (S' := [(.inl 0), (.inr (.inr (some 208)))]) rfl (c_in_f hb284) rfl rfl (ex_if1 (fun hc => by exfalso; revert hc; decide) (fun _ => ?_)))
                refine (ex_0 (ex_28 (ix_42z (sh_208 hS) (by decide) (ex_28 (ex_28 ?_)))))
                refine (ex_4_4 (ex_4_2 ?_))
                refine ex_ic3 (fun hc13 => ?_) (fun hc13 => ?_)
                · first | rw [brk_h, u2_u2] | rw [u2_sw (q := 208) (q' := 228) (by decide), u2_u2, u2_u1]
                  exact hQ0 (m + 1) (k + 1) (am_u1 r m (m_rv (op k) (r m) (r (m + 1)))) (fun k_ => ([some (.inr (.inr (some 208))), some (.inl fi), some (.inl (last : Int)), some (.inl ((m : Int) + 1)), some (.inl ((k : Int) + 1)), some (.inl (op k)), some (.inl (arg k))] : am_L).getD k_ none) (by omega) hres
                · refine (ex_6_0 (ix_41i (sh_208 hS) u2_e (ex_if1 (fun _ => ?_) (fun hc => by exfalso; revert hc; decide))))
                  first | rw [brk_h, u2_u2] | rw [u2_sw (q := 208) (q' := 228) (by decide), u2_u2, u2_u1]
                  exact hQ0 (m + 1) (k + 1) (am_u1 r m (m_rv (op k) (r m) (r (m + 1)))) (fun k_ => ([some (.inr (.inr (some 208))), some (.inl fi), some (.inl (last : Int)), some (.inl ((m : Int) + 1)), some (.inl ((k : Int) + 1)), some (.inl (op k)), some (.inl (arg k))] : am_L).getD k_ none) (by omega) hres
          · rw [if_neg hg] at hrk; cases hrk
        · rw [if_neg h28o] at hrk
          by_cases h28e : op k = 28
          · rw [if_pos h28e] at hrk
            by_cases hg : (1 ≤ n ∧ n ≤ 400) ∧ (r (n - 1) = 0 ∨ r (n - 1) = 1)
            · rw [if_pos hg] at hrk
              obtain ⟨m, rfl⟩ : ∃ m, n = m + 1 := ⟨n - 1, by omega⟩
              rw [show m + 1 - 1 = m by omega] at hrk hg
              have hbn : ∀ j, j < m + 1 → -1000000000 ≤ am_u1 r m (1 - r m) j ∧ am_u1 r m (1 - r m) j ≤ 1000000000 := by
                intro j hj
                unfold am_u1
                split
                · omega
                · exact hb j (by omega)
              refine (ex_4_4 (ex_4_2 ?_))
              refine ex_ic3 (fun hc13 => by exfalso; omega) (fun hc13 => ?_)
              refine (ex_6_0 (ix_41i (sh_208 hS) u2_e (ex_if1 (fun hc => by exfalso; revert hc; decide) (fun _ => ?_))))
              refine (ex_6_0 (ix_41i (sh_208 hS) ((u2_k (by decide)).trans (((u1_qk (by decide))).trans h20)) (ex_if0 (fun hc => by exfalso; revert hc; decide) (fun _ => ?_))))
              refine (ex_6_0 (ix_41r (sh_208 hS) (pt_208_24 hS) (ex_4_4 (ix_30 (j := k) (sh_219 hS) (by omega) (by omega) (by omega) ((u2_q (by decide)).trans (((u1_qk (by decide))).trans (hop k hkl).1)) (ex_28 (ex_7_5 rfl (ex_6_0 (ix_41i (sh_208 hS) ((u2_k (by decide)).trans (((u1_qk (by decide))).trans h20)) (ex_if0 (fun hc => by exfalso; revert hc; decide) (fun _ => ?_))))))))))
              refine (ex_6_0 (ix_41r (sh_208 hS) (pt_208_25 hS) (ex_4_4 (ix_30 (j := k) (sh_220 hS) (by omega) (by omega) (by omega) ((u2_q (by decide)).trans (((u1_qk (by decide))).trans (hop k hkl).2)) (ex_28 (ex_7_6 rfl (ex_10_4 ⟨by omega, by omega⟩ rfl (ex_4_5 (ex_0 ?_)))))))))
              refine ex_ic3 (fun hc104 => ?_) (fun hc104 => by exfalso; omega)
              refine (ex_4_5 (ex_0 ?_))
              refine ex_ic3 (fun hc228 => ?_) (fun hc228 => by exfalso; omega)
              refine (ex_4_5 (ex_0 ?_))
              refine ex_ic1 (fun hc305 => by exact absurd h28e hc305) (fun hc305 => ?_)
              refine (ex_6_0 (ix_41r (sh_208 hS) (pt_208_37 hS) (ex_4_3 (ex_0 (ex_11e (v := (m : Int)) ((am_sub ⟨by omega, by omega⟩).trans (by omega)) (ex_1 (ex_6_0 (ix_41r (sh_208 hS) (pt_208_37 hS) (ex_4_3 (ex_0 (ex_11e (v := (m : Int)) ((am_sub ⟨by omega, by omega⟩).trans (by omega)) (ix_32 (j := m) (sh_228 hS) (by omega) (by omega) (by omega) ((u2_q (by decide)).trans (congrFun u1_e _)) (ex_lsub ⟨by omega, by omega⟩ (ix_36 (j := m) (sh_228 hS) (by omega) (by omega) (by omega) (ex_28 (ex_28 ?_))))))))))))))))
              rw [u2_sw (q := 208) (q' := 228) (by decide), u2_u1]
              exact l_rkO hS h20 hop hlast h0 h1 hwv hQ1 hQ0 f (k + 1) (m + 1) (am_u1 r m (1 - r m)) (fun k_ => ([some (.inr (.inr (some 208))), some (.inl fi), some (.inl (last : Int)), some (.inl ((m + 1 : Nat) : Int)), some (.inl ((k : Int) + 1)), some (.inl (op k)), some (.inl (arg k))] : am_L).getD k_ none) hrk hbn
            · rw [if_neg hg] at hrk; cases hrk
          · rw [if_neg h28e] at hrk
            by_cases hg : (1 ≤ n ∧ n ≤ 400) ∧ 0 ≤ arg k ∧ arg k ≤ 400
            · rw [if_pos hg] at hrk
              obtain ⟨m, rfl⟩ : ∃ m, n = m + 1 := ⟨n - 1, by omega⟩
              rw [show m + 1 - 1 = m by omega] at hrk
              obtain ⟨ak, hak⟩ : ∃ a : Nat, arg k = (a : Int) := ⟨(arg k).toNat, by omega⟩
              have hbm : ∀ j, j < m → -1000000000 ≤ r j ∧ r j ≤ 1000000000 := fun j hj => hb j (by omega)
              by_cases h29 : op k = 29
              · rw [if_pos h29] at hrk
                by_cases hj : r m = 0
                · rw [if_pos hj, hak, Int.toNat_natCast] at hrk
                  refine (ex_4_4 (ex_4_2 ?_))
                  refine ex_ic3 (fun hc13 => by exfalso; omega) (fun hc13 => ?_)
                  refine (ex_6_0 (ix_41i (sh_208 hS) u2_e (ex_if1 (fun hc => by exfalso; revert hc; decide) (fun _ => ?_))))
                  refine (ex_6_0 (ix_41i (sh_208 hS) ((u2_k (by decide)).trans (((u1_qk (by decide))).trans h20)) (ex_if0 (fun hc => by exfalso; revert hc; decide) (fun _ => ?_))))
                  refine (ex_6_0 (ix_41r (sh_208 hS) (pt_208_24 hS) (ex_4_4 (ix_30 (j := k) (sh_219 hS) (by omega) (by omega) (by omega) ((u2_q (by decide)).trans (((u1_qk (by decide))).trans (hop k hkl).1)) (ex_28 (ex_7_5 rfl (ex_6_0 (ix_41i (sh_208 hS) ((u2_k (by decide)).trans (((u1_qk (by decide))).trans h20)) (ex_if0 (fun hc => by exfalso; revert hc; decide) (fun _ => ?_))))))))))
                  refine (ex_6_0 (ix_41r (sh_208 hS) (pt_208_25 hS) (ex_4_4 (ix_30 (j := k) (sh_220 hS) (by omega) (by omega) (by omega) ((u2_q (by decide)).trans (((u1_qk (by decide))).trans (hop k hkl).2)) (ex_28 (ex_7_6 rfl (ex_10_4 ⟨by omega, by omega⟩ rfl (ex_4_5 (ex_0 ?_)))))))))
                  refine ex_ic3 (fun hc104 => ?_) (fun hc104 => by exfalso; omega)
                  refine (ex_4_5 (ex_0 ?_))
                  refine ex_ic3 (fun hc228 => ?_) (fun hc228 => by exfalso; omega)
                  refine (ex_4_5 (ex_0 ?_))
                  refine ex_ic1 (fun hc305 => ?_) (fun hc305 => by exact absurd hc305 h28e)
                  refine (ex_6_0 (ix_41r (sh_208 hS) (pt_208_37 hS) (ex_4_3 (ex_0 (ex_11e (v := (m : Int)) ((am_sub ⟨by omega, by omega⟩).trans (by omega)) (ix_32 (j := m) (sh_228 hS) (by omega) (by omega) (by omega) ((u2_q (by decide)).trans (congrFun u1_e _)) (ex_4_5 (ex_0 ?_))))))))
                  refine ex_ic1 (fun hc341 => by exact absurd h29 hc341) (fun hc341 => ?_)
                  refine (ex_1 (ex_28 ?_))
                  refine ex_lc1 (fun hc350 => by exact absurd hj hc350) (fun hc350 => ?_)
                  refine (ex_4_6 (ex_7_4 rfl (ex_28 (ex_28 ?_))))
                  rw [hak]
                  exact l_rkO hS h20 hop hlast h0 h1 hwv hQ1 hQ0 f ak (m + 1) r (fun k_ => ([some (.inr (.inr (some 208))), some (.inl fi), some (.inl (last : Int)), some (.inl ((m + 1 : Nat) : Int)), some (.inl (ak : Int)), some (.inl (op k)), some (.inl (ak : Int))] : am_L).getD k_ none) hrk hb
                · rw [if_neg hj] at hrk
                  refine (ex_4_4 (ex_4_2 ?_))
                  refine ex_ic3 (fun hc13 => by exfalso; omega) (fun hc13 => ?_)
                  refine (ex_6_0 (ix_41i (sh_208 hS) u2_e (ex_if1 (fun hc => by exfalso; revert hc; decide) (fun _ => ?_))))
                  refine (ex_6_0 (ix_41i (sh_208 hS) ((u2_k (by decide)).trans (((u1_qk (by decide))).trans h20)) (ex_if0 (fun hc => by exfalso; revert hc; decide) (fun _ => ?_))))
                  refine (ex_6_0 (ix_41r (sh_208 hS) (pt_208_24 hS) (ex_4_4 (ix_30 (j := k) (sh_219 hS) (by omega) (by omega) (by omega) ((u2_q (by decide)).trans (((u1_qk (by decide))).trans (hop k hkl).1)) (ex_28 (ex_7_5 rfl (ex_6_0 (ix_41i (sh_208 hS) ((u2_k (by decide)).trans (((u1_qk (by decide))).trans h20)) (ex_if0 (fun hc => by exfalso; revert hc; decide) (fun _ => ?_))))))))))
                  refine (ex_6_0 (ix_41r (sh_208 hS) (pt_208_25 hS) (ex_4_4 (ix_30 (j := k) (sh_220 hS) (by omega) (by omega) (by omega) ((u2_q (by decide)).trans (((u1_qk (by decide))).trans (hop k hkl).2)) (ex_28 (ex_7_6 rfl (ex_10_4 ⟨by omega, by omega⟩ rfl (ex_4_5 (ex_0 ?_)))))))))
                  refine ex_ic3 (fun hc104 => ?_) (fun hc104 => by exfalso; omega)
                  refine (ex_4_5 (ex_0 ?_))
                  refine ex_ic3 (fun hc228 => ?_) (fun hc228 => by exfalso; omega)
                  refine (ex_4_5 (ex_0 ?_))
                  refine ex_ic1 (fun hc305 => ?_) (fun hc305 => by exact absurd hc305 h28e)
                  refine (ex_6_0 (ix_41r (sh_208 hS) (pt_208_37 hS) (ex_4_3 (ex_0 (ex_11e (v := (m : Int)) ((am_sub ⟨by omega, by omega⟩).trans (by omega)) (ix_32 (j := m) (sh_228 hS) (by omega) (by omega) (by omega) ((u2_q (by decide)).trans (congrFun u1_e _)) (ex_4_5 (ex_0 ?_))))))))
                  refine ex_ic1 (fun hc341 => by exact absurd h29 hc341) (fun hc341 => ?_)
                  refine (ex_1 (ex_28 ?_))
                  refine ex_lc1 (fun hc350 => ?_) (fun hc350 => by exact absurd hc350 hj)
                  refine (ex_10_3 ⟨by omega, by omega⟩ rfl ?_)
                  rw [show (((m + 1 : Nat) : Int) + (-1)) = (m : Int) from by omega]
                  refine (ex_58 (ex_28 ?_))
                  exact l_rkO hS h20 hop hlast h0 h1 hwv hQ1 hQ0 f (k + 1) m r (fun k_ => ([some (.inr (.inr (some 208))), some (.inl fi), some (.inl (last : Int)), some (.inl (m : Int)), some (.inl ((k : Int) + 1)), some (.inl (op k)), some (.inl (arg k))] : am_L).getD k_ none) hrk hbm
              · rw [if_neg h29] at hrk
                by_cases hj : r m = 1
                · rw [if_pos hj, hak, Int.toNat_natCast] at hrk
                  refine (ex_4_4 (ex_4_2 ?_))
                  refine ex_ic3 (fun hc13 => by exfalso; omega) (fun hc13 => ?_)
                  refine (ex_6_0 (ix_41i (sh_208 hS) u2_e (ex_if1 (fun hc => by exfalso; revert hc; decide) (fun _ => ?_))))
                  refine (ex_6_0 (ix_41i (sh_208 hS) ((u2_k (by decide)).trans (((u1_qk (by decide))).trans h20)) (ex_if0 (fun hc => by exfalso; revert hc; decide) (fun _ => ?_))))
                  refine (ex_6_0 (ix_41r (sh_208 hS) (pt_208_24 hS) (ex_4_4 (ix_30 (j := k) (sh_219 hS) (by omega) (by omega) (by omega) ((u2_q (by decide)).trans (((u1_qk (by decide))).trans (hop k hkl).1)) (ex_28 (ex_7_5 rfl (ex_6_0 (ix_41i (sh_208 hS) ((u2_k (by decide)).trans (((u1_qk (by decide))).trans h20)) (ex_if0 (fun hc => by exfalso; revert hc; decide) (fun _ => ?_))))))))))
                  refine (ex_6_0 (ix_41r (sh_208 hS) (pt_208_25 hS) (ex_4_4 (ix_30 (j := k) (sh_220 hS) (by omega) (by omega) (by omega) ((u2_q (by decide)).trans (((u1_qk (by decide))).trans (hop k hkl).2)) (ex_28 (ex_7_6 rfl (ex_10_4 ⟨by omega, by omega⟩ rfl (ex_4_5 (ex_0 ?_)))))))))
                  refine ex_ic3 (fun hc104 => ?_) (fun hc104 => by exfalso; omega)
                  refine (ex_4_5 (ex_0 ?_))
                  refine ex_ic3 (fun hc228 => ?_) (fun hc228 => by exfalso; omega)
                  refine (ex_4_5 (ex_0 ?_))
                  refine ex_ic1 (fun hc305 => ?_) (fun hc305 => by exact absurd hc305 h28e)
                  refine (ex_6_0 (ix_41r (sh_208 hS) (pt_208_37 hS) (ex_4_3 (ex_0 (ex_11e (v := (m : Int)) ((am_sub ⟨by omega, by omega⟩).trans (by omega)) (ix_32 (j := m) (sh_228 hS) (by omega) (by omega) (by omega) ((u2_q (by decide)).trans (congrFun u1_e _)) (ex_4_5 (ex_0 ?_))))))))
                  refine ex_ic1 (fun hc341 => ?_) (fun hc341 => by exact absurd hc341 h29)
                  refine (ex_1 (ex_58 ?_))
                  refine ex_lc1 (fun hc350 => by exact absurd hj hc350) (fun hc350 => ?_)
                  refine (ex_4_6 (ex_7_4 rfl (ex_28 (ex_28 ?_))))
                  rw [hak]
                  exact l_rkO hS h20 hop hlast h0 h1 hwv hQ1 hQ0 f ak (m + 1) r (fun k_ => ([some (.inr (.inr (some 208))), some (.inl fi), some (.inl (last : Int)), some (.inl ((m + 1 : Nat) : Int)), some (.inl (ak : Int)), some (.inl (op k)), some (.inl (ak : Int))] : am_L).getD k_ none) hrk hb
                · rw [if_neg hj] at hrk
                  refine (ex_4_4 (ex_4_2 ?_))
                  refine ex_ic3 (fun hc13 => by exfalso; omega) (fun hc13 => ?_)
                  refine (ex_6_0 (ix_41i (sh_208 hS) u2_e (ex_if1 (fun hc => by exfalso; revert hc; decide) (fun _ => ?_))))
                  refine (ex_6_0 (ix_41i (sh_208 hS) ((u2_k (by decide)).trans (((u1_qk (by decide))).trans h20)) (ex_if0 (fun hc => by exfalso; revert hc; decide) (fun _ => ?_))))
                  refine (ex_6_0 (ix_41r (sh_208 hS) (pt_208_24 hS) (ex_4_4 (ix_30 (j := k) (sh_219 hS) (by omega) (by omega) (by omega) ((u2_q (by decide)).trans (((u1_qk (by decide))).trans (hop k hkl).1)) (ex_28 (ex_7_5 rfl (ex_6_0 (ix_41i (sh_208 hS) ((u2_k (by decide)).trans (((u1_qk (by decide))).trans h20)) (ex_if0 (fun hc => by exfalso; revert hc; decide) (fun _ => ?_))))))))))
                  refine (ex_6_0 (ix_41r (sh_208 hS) (pt_208_25 hS) (ex_4_4 (ix_30 (j := k) (sh_220 hS) (by omega) (by omega) (by omega) ((u2_q (by decide)).trans (((u1_qk (by decide))).trans (hop k hkl).2)) (ex_28 (ex_7_6 rfl (ex_10_4 ⟨by omega, by omega⟩ rfl (ex_4_5 (ex_0 ?_)))))))))
                  refine ex_ic3 (fun hc104 => ?_) (fun hc104 => by exfalso; omega)
                  refine (ex_4_5 (ex_0 ?_))
                  refine ex_ic3 (fun hc228 => ?_) (fun hc228 => by exfalso; omega)
                  refine (ex_4_5 (ex_0 ?_))
                  refine ex_ic1 (fun hc305 => ?_) (fun hc305 => by exact absurd hc305 h28e)
                  refine (ex_6_0 (ix_41r (sh_208 hS) (pt_208_37 hS) (ex_4_3 (ex_0 (ex_11e (v := (m : Int)) ((am_sub ⟨by omega, by omega⟩).trans (by omega)) (ix_32 (j := m) (sh_228 hS) (by omega) (by omega) (by omega) ((u2_q (by decide)).trans (congrFun u1_e _)) (ex_4_5 (ex_0 ?_))))))))
                  refine ex_ic1 (fun hc341 => ?_) (fun hc341 => by exact absurd hc341 h29)
                  refine (ex_1 (ex_58 ?_))
                  refine ex_lc1 (fun hc350 => ?_) (fun hc350 => by exact absurd hc350 hj)
                  refine (ex_10_3 ⟨by omega, by omega⟩ rfl ?_)
                  rw [show (((m + 1 : Nat) : Int) + (-1)) = (m : Int) from by omega]
                  refine (ex_58 (ex_28 ?_))
                  exact l_rkO hS h20 hop hlast h0 h1 hwv hQ1 hQ0 f (k + 1) m r (fun k_ => ([some (.inr (.inr (some 208))), some (.inl fi), some (.inl (last : Int)), some (.inl (m : Int)), some (.inl ((k : Int) + 1)), some (.inl (op k)), some (.inl (arg k))] : am_L).getD k_ none) hrk hbm
            · rw [if_neg hg] at hrk; cases hrk
