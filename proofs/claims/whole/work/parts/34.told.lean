/-! ===== a row that is in order; told, soaked, barred, whither, joined (the reference) ===== -/
def RW (ρ : Nat → Int) : Prop := (0 ≤ ρ 0 ∧ ρ 0 ≤ 6) ∧ (0 ≤ ρ 1 ∧ ρ 1 ≤ 5) ∧ (0 ≤ ρ 2 ∧ ρ 2 ≤ 6) ∧ (0 ≤ ρ 3 ∧ ρ 3 ≤ 6) ∧ (-1 ≤ ρ 4 ∧ ρ 4 < ρ 3) ∧ (0 ≤ ρ 5 ∧ ρ 5 ≤ 1100) ∧ (0 ≤ ρ 6 ∧ ρ 6 ≤ 10) ∧ (0 ≤ ρ 7 ∧ ρ 7 ≤ 9) ∧ (0 ≤ ρ 8 ∧ ρ 8 < 64) ∧ (∀ c, c < 6 → 0 ≤ ρ (9 + c) ∧ ρ (9 + c) < 6) ∧ (∀ f, f < 5 → ρ (15 + f) = 0 ∨ ρ (15 + f) = 1) ∧ (∀ f, f < 5 → 0 ≤ ρ (20 + f) ∧ ρ (20 + f) ≤ 999) ∧ (∀ f, f < 5 → 0 ≤ ρ (25 + f) ∧ ρ (25 + f) ≤ 999) ∧ (∀ c, c < 6 → 0 ≤ ρ (30 + c) ∧ ρ (30 + c) < 5) ∧ (∀ c, c < 6 → 0 ≤ ρ (36 + c) ∧ ρ (36 + c) ≤ 9) ∧ (∀ f, f < 5 → 0 ≤ ρ (42 + f) ∧ ρ (42 + f) < 6) ∧ (∀ f, f < 5 → 0 ≤ ρ (47 + f) ∧ ρ (47 + f) < 32) ∧ (∀ j, j < 36 → 0 ≤ ρ (52 + j) ∧ ρ (52 + j) ≤ 9) ∧ (∀ b o, b < 6 → o < 6 → ρ (52 + 6 * b + o) = ρ (52 + 6 * o + b)) ∧ (∀ b, b < 6 → ρ (52 + 6 * b + b) = 0) ∧ (∀ k, k < 6 → (0 ≤ ρ (88 + 2 * k) ∧ ρ (88 + 2 * k) < 5) ∧ (0 ≤ ρ (88 + 2 * k + 1) ∧ ρ (88 + 2 * k + 1) ≤ 9)) ∧ (∀ k : Nat, (k : Int) < ρ 2 → ρ (88 + 2 * k) < ρ 1)
theorem RW_n0 {ρ : Nat → Int} (h : RW ρ) : 0 ≤ ρ 0 ∧ ρ 0 ≤ 6 := h.1
theorem RW_n1 {ρ : Nat → Int} (h : RW ρ) : 0 ≤ ρ 1 ∧ ρ 1 ≤ 5 := h.2.1
theorem RW_n2 {ρ : Nat → Int} (h : RW ρ) : 0 ≤ ρ 2 ∧ ρ 2 ≤ 6 := h.2.2.1
theorem RW_n3 {ρ : Nat → Int} (h : RW ρ) : 0 ≤ ρ 3 ∧ ρ 3 ≤ 6 := h.2.2.2.1
theorem RW_fo {ρ : Nat → Int} (h : RW ρ) : -1 ≤ ρ 4 ∧ ρ 4 < ρ 3 := h.2.2.2.2.1
theorem RW_ni {ρ : Nat → Int} (h : RW ρ) : 0 ≤ ρ 5 ∧ ρ 5 ≤ 1100 := h.2.2.2.2.2.1
theorem RW_fa {ρ : Nat → Int} (h : RW ρ) : 0 ≤ ρ 6 ∧ ρ 6 ≤ 10 := h.2.2.2.2.2.2.1
theorem RW_mo {ρ : Nat → Int} (h : RW ρ) : 0 ≤ ρ 7 ∧ ρ 7 ≤ 9 := h.2.2.2.2.2.2.2.1
theorem RW_sm {ρ : Nat → Int} (h : RW ρ) : 0 ≤ ρ 8 ∧ ρ 8 < 64 := h.2.2.2.2.2.2.2.2.1
theorem RW_at {ρ : Nat → Int} (h : RW ρ) : ∀ c, c < 6 → 0 ≤ ρ (9 + c) ∧ ρ (9 + c) < 6 := h.2.2.2.2.2.2.2.2.2.1
theorem RW_en {ρ : Nat → Int} (h : RW ρ) : ∀ f, f < 5 → ρ (15 + f) = 0 ∨ ρ (15 + f) = 1 := h.2.2.2.2.2.2.2.2.2.2.1
theorem RW_we {ρ : Nat → Int} (h : RW ρ) : ∀ f, f < 5 → 0 ≤ ρ (20 + f) ∧ ρ (20 + f) ≤ 999 := h.2.2.2.2.2.2.2.2.2.2.2.1
theorem RW_kn {ρ : Nat → Int} (h : RW ρ) : ∀ f, f < 5 → 0 ≤ ρ (25 + f) ∧ ρ (25 + f) ≤ 999 := h.2.2.2.2.2.2.2.2.2.2.2.2.1
theorem RW_ki {ρ : Nat → Int} (h : RW ρ) : ∀ c, c < 6 → 0 ≤ ρ (30 + c) ∧ ρ (30 + c) < 5 := h.2.2.2.2.2.2.2.2.2.2.2.2.2.1
theorem RW_ra {ρ : Nat → Int} (h : RW ρ) : ∀ c, c < 6 → 0 ≤ ρ (36 + c) ∧ ρ (36 + c) ≤ 9 := h.2.2.2.2.2.2.2.2.2.2.2.2.2.2.1
theorem RW_by {ρ : Nat → Int} (h : RW ρ) : ∀ f, f < 5 → 0 ≤ ρ (42 + f) ∧ ρ (42 + f) < 6 := h.2.2.2.2.2.2.2.2.2.2.2.2.2.2.2.1
theorem RW_ea {ρ : Nat → Int} (h : RW ρ) : ∀ f, f < 5 → 0 ≤ ρ (47 + f) ∧ ρ (47 + f) < 32 := h.2.2.2.2.2.2.2.2.2.2.2.2.2.2.2.2.1
theorem RW_ro {ρ : Nat → Int} (h : RW ρ) : ∀ j, j < 36 → 0 ≤ ρ (52 + j) ∧ ρ (52 + j) ≤ 9 := h.2.2.2.2.2.2.2.2.2.2.2.2.2.2.2.2.2.1
theorem RW_rs {ρ : Nat → Int} (h : RW ρ) : ∀ b o, b < 6 → o < 6 → ρ (52 + 6 * b + o) = ρ (52 + 6 * o + b) := h.2.2.2.2.2.2.2.2.2.2.2.2.2.2.2.2.2.2.1
theorem RW_rd {ρ : Nat → Int} (h : RW ρ) : ∀ b, b < 6 → ρ (52 + 6 * b + b) = 0 := h.2.2.2.2.2.2.2.2.2.2.2.2.2.2.2.2.2.2.2.1
theorem RW_he {ρ : Nat → Int} (h : RW ρ) : ∀ k, k < 6 → (0 ≤ ρ (88 + 2 * k) ∧ ρ (88 + 2 * k) < 5) ∧ (0 ≤ ρ (88 + 2 * k + 1) ∧ ρ (88 + 2 * k + 1) ≤ 9) := h.2.2.2.2.2.2.2.2.2.2.2.2.2.2.2.2.2.2.2.2.1
theorem RW_hf {ρ : Nat → Int} (h : RW ρ) : ∀ k : Nat, (k : Int) < ρ 2 → ρ (88 + 2 * k) < ρ 1 := h.2.2.2.2.2.2.2.2.2.2.2.2.2.2.2.2.2.2.2.2.2
def LawNow (ρ : Nat → Int) (n : Nat) (cl : Nat → Cl) : Prop := (ρ 4 = -1 ∧ n = 0) ∨ ∃ i4 : Nat, i4 < 6 ∧ ρ 4 = (i4 : Int) ∧ RowLaw ρ (100 + 900 * i4) n cl
def ME (I : Nat → Nat → Int) (ρ : Nat → Int) (n : Nat) (cl : Nat → Cl) : Prop := I 210 = ρ ∧ RW ρ ∧ LawNow ρ n cl ∧ I 208 20 = 0
def TF (I J : Nat → Nat → Int) : Prop := ∀ q k, ¬ q = 228 → ¬ q = 226 → ¬ (q = 208 ∧ (k = 34 ∨ k = 38 ∨ k = 39 ∨ k = 40)) → J q k = I q k
theorem TF_refl {I : Nat → Nat → Int} : TF I I := fun _ _ _ _ _ => rfl
theorem TF_trans {I J K : Nat → Nat → Int} (h : TF I J) (h2 : TF J K) : TF I K := fun q k a b c => (h2 q k a b c).trans (h q k a b c)
theorem TF_q {I J : Nat → Nat → Int} (h : TF I J) {q : Nat} (h1 : ¬ q = 228) (h2 : ¬ q = 226) (h3 : ¬ q = 208) : J q = I q := funext fun k => h q k h1 h2 (fun z => h3 z.1)
theorem ME_TF {I J : Nat → Nat → Int} {ρ : Nat → Int} {n : Nat} {cl : Nat → Cl} (h : ME I ρ n cl) (hf : TF I J) : ME J ρ n cl := ⟨(TF_q hf (by decide) (by decide) (by decide)).trans h.1, h.2.1, h.2.2.1, (hf _ _ (by decide) (by decide) (by decide)).trans h.2.2.2⟩
theorem m_knows_1 {ρ : Nat → Int} {c f : Nat} : m_knows ρ c f ≤ 1 := Nat.and_le_right
theorem wl_ok {ρ : Nat → Int} (h : RW ρ) {c : Nat} {f : Int} (hc : c < 6) (hf : -1 ≤ f ∧ f < 5) : okw (wl ρ c f) := by
  intro i
  have h1 := RW_ki h c hc
  have h2 := RW_ra h c hc
  have h3 := RW_at h c hc
  have h4 := RW_ni h
  have h5 := RW_mo h
  have h6 := m_knows_1 (ρ := ρ) (c := c) (f := f.toNat)
  unfold rkb wl
  by_cases hn : f = -1
  · rw [if_pos hn, if_pos hn]
    (repeat' split) <;> omega
  · have h7 := RW_we h f.toNat (by omega)
    rw [if_neg hn, if_neg hn]
    (repeat' split) <;> omega
theorem c_tells {d : Nat} {G : am_G} {I : Nat → Nat → Int} {P : Nat → Nat → Option Nat} (hS : ST G P) {ρ : Nat → Int} {n : Nat} {cl : Nat → Cl} (hM : ME I ρ n cl) {vb c : Nat} {f wo : Int} (hc : c < 6) (hf : -1 ≤ f ∧ f < 5) : ∃ I1, am_call am_B am_M (d + 6) 231 [.inr (.inr (some 208)), .inl (vb : Int), .inl (c : Int), .inl f, .inr (.inl wo)] (G, I, P) = some (some (.inr (.inl ((law_say n cl vb (wl ρ c f)).getD wo))), (G, I1, P)) ∧ TF I I1 := by
  obtain ⟨rfl, hR, hL, h20⟩ := hM
  have hw := wl_ok hR hc hf
  rcases hL with ⟨h4, rfl⟩ | ⟨i4, hi4, h4, hrl⟩
  · exact ⟨I, c_tells_n hS h4, TF_refl⟩
  · have hk := RW_ki hR c hc
    obtain ⟨kd, hkd⟩ : ∃ kd : Nat, I 210 (30 + c) = (kd : Int) := ⟨(I 210 (30 + c)).toNat, by omega⟩
    by_cases hn : f = -1
    · subst hn
      exact c_tells_c hS hc hkd (by omega) h20 h4 hi4 hrl hw
    · obtain ⟨g, rfl⟩ : ∃ g : Nat, f = (g : Int) := ⟨f.toNat, by omega⟩
      have he := RW_ea hR g (by omega)
      obtain ⟨ea, hea⟩ : ∃ ea : Nat, I 210 (47 + g) = (ea : Int) := ⟨(I 210 (47 + g)).toNat, by omega⟩
      exact c_tells_f hS hc hkd (by omega) (by omega) hea (by omega) h20 h4 hi4 hrl hw
def m_told (ρ : Nat → Int) (n : Nat) (cl : Nat → Cl) (c f : Nat) : Int := m_within ((law_say n cl 0 (wl ρ c f)).getD ((m_knows ρ c f : Int) * ρ (36 + c))) 0 9
def m_soak (ρ : Nat → Int) (n : Nat) (cl : Nat → Cl) (c f : Nat) : Int := m_within ((law_say n cl 1 (wl ρ c f)).getD (ρ (36 + c))) 0 9
def m_bar (ρ : Nat → Int) (n : Nat) (cl : Nat → Cl) (c f : Nat) : Prop := (law_say n cl 3 (wl ρ c f)).getD 0 = 1
def m_to (ρ : Nat → Int) (n : Nat) (cl : Nat → Cl) (c : Nat) : Int := (law_say n cl 2 (wl ρ c (-1))).getD ((ρ (9 + c) + 1) % 6)
def m_goes (ρ : Nat → Int) (n : Nat) (cl : Nat → Cl) (c : Nat) : Int := if (0 ≤ m_to ρ n cl c ∧ m_to ρ n cl c ≤ 5) ∧ 0 < ρ (52 + 6 * (ρ (9 + c)).toNat + (m_to ρ n cl c).toNat) then m_to ρ n cl c else ρ (9 + c)
def m_join (ρ : Nat → Int) (one other : Nat) : Prop := (m_comes ρ one (wh (ρ 8).toNat)).testBit other = true
def m_can (ρ : Nat → Int) (n : Nat) (cl : Nat → Cl) (c f : Nat) : Prop := m_join ρ (ρ (9 + c)).toNat (ρ (42 + f)).toNat ∧ ¬ m_bar ρ n cl c f
theorem m_within_b {v lo hi : Int} (h : lo ≤ hi) : lo ≤ m_within v lo hi ∧ m_within v lo hi ≤ hi := by
  unfold m_within; split
  · omega
  · split <;> omega
theorem m_told_b {ρ : Nat → Int} {n : Nat} {cl : Nat → Cl} {c f : Nat} : 0 ≤ m_told ρ n cl c f ∧ m_told ρ n cl c f ≤ 9 := m_within_b (by decide)
theorem m_soak_b {ρ : Nat → Int} {n : Nat} {cl : Nat → Cl} {c f : Nat} : 0 ≤ m_soak ρ n cl c f ∧ m_soak ρ n cl c f ≤ 9 := m_within_b (by decide)
theorem m_goes_b {ρ : Nat → Int} (h : RW ρ) {n : Nat} {cl : Nat → Cl} {c : Nat} (hc : c < 6) : 0 ≤ m_goes ρ n cl c ∧ m_goes ρ n cl c < 6 := by
  have := RW_at h c hc
  unfold m_goes; split <;> omega
theorem am_d4p {a b : Int} (ha : 0 ≤ a) (hb : 0 < b) (ha2 : a ≤ 2147483647) (hb2 : b ≤ 2147483647) : (Int32.ofInt a / Int32.ofInt b).toInt = a / b := by
  have ea : (Int32.ofInt a).toInt = a := Int32.toInt_ofInt_of_le (by omega) (by omega)
  have eb : (Int32.ofInt b).toInt = b := Int32.toInt_ofInt_of_le (by omega) (by omega)
  rw [Int32.toInt_div_of_ne_right, ea, eb, Int.tdiv_eq_ediv_of_nonneg ha]
  intro h
  rw [h] at eb
  have : (-1 : Int32).toInt = -1 := by decide
  omega
theorem am_d4q {a b : Int} (ha : 0 ≤ a) (hb : 0 < b) (ha2 : a ≤ 2147483647) (hb2 : b ≤ 2147483647) : am_d4 0 a b = a / b := am_d4p ha hb ha2 hb2
theorem am_d4r {a b : Int} (ha : 0 ≤ a) (hb : 0 < b) (ha2 : a ≤ 2147483647) (hb2 : b ≤ 2147483647) : am_d4 1 a b = a % b := by
  have e : am_d4 1 a b = (Int32.ofInt a - Int32.ofInt a / Int32.ofInt b * Int32.ofInt b).toInt := rfl
  have ha' : 0 ≤ a / b := Int.ediv_nonneg ha (by omega)
  have hm := Int.mul_ediv_add_emod a b
  have hm0 := Int.emod_nonneg a (by omega : b ≠ 0)
  have hm2 := Int.emod_lt_of_pos a hb
  have hm1 : b * (a / b) = a / b * b := Int.mul_comm _ _
  have hq : Int32.ofInt a / Int32.ofInt b = Int32.ofInt (a / b) := by
    rw [← am_d4p ha hb ha2 hb2, Int32.ofInt_toInt]
  rw [e, hq, ← Int32.ofInt_mul, ← Int32.ofInt_sub, Int32.toInt_ofInt_of_le (by omega) (by omega)]
  omega
theorem c_toldBy {d : Nat} {G : am_G} {I : Nat → Nat → Int} {P : Nat → Nat → Option Nat} (hS : ST G P) {ρ : Nat → Int} {n : Nat} {cl : Nat → Cl} (hM : ME I ρ n cl) {c f : Nat} (hc : c < 6) (hf : f < 5) : ∃ I1, am_call am_B am_M (d + 7) 232 [(.inr (.inr (some 208))), (.inl (c : Int)), (.inl (f : Int))] (G, I, P) = some (some (.inl (m_told ρ n cl c f)), (G, I1, P)) ∧ (TF I I1) := by
  have hki := RW_ki hM.2.1 c hc
  have hea := RW_ea hM.2.1 f hf
  have hra := RW_ra hM.2.1 c hc
  have hkn := m_knows_1 (ρ := ρ) (c := c) (f := f)
  have hmu : 0 ≤ ((m_knows ρ c f : Nat) : Int) * ρ (36 + c) ∧ ((m_knows ρ c f : Nat) : Int) * ρ (36 + c) ≤ 9 := by
    have : m_knows ρ c f = 0 ∨ m_knows ρ c f = 1 := by omega
    rcases this with h | h <;> rw [h]
    · omega
    · omega
  have w : am_ex (am_call am_B am_M (d + 6)) (am_B 232) (am_B 232 0) [some (.inr (.inr (some 208))), some (.inl (c : Int)), some (.inl (f : Int))] [] (G, I, P) (fun o => ∃ I1, o = (some (.inl (m_told ρ n cl c f)), (G, I1, P)) ∧ (TF I I1)) := by
    refine (ex_6_0 (ex_0 (ex_4_1 (ex_4_2 (ex_6_0 (ex_4_1 (ex_4_2 (ix_46 (S' := [(.inl ((m_knows ρ c f : Nat) : Int)), (.inl (f : Int)), (.inl (c : Int)), (.inl 0), (.inr (.inr (some 208)))]) rfl (sh_208 hS) (c_knows hS (c := c) (f := f) hc hf ((congrFun hM.1 _).trans (Int.toNat_of_nonneg hea.1).symm) (by omega) ((congrFun hM.1 _).trans (Int.toNat_of_nonneg hki.1).symm) (by omega)) rfl rfl (ex_6_0 (ix_41r (sh_208 hS) (pt_208_3 hS) (ex_0 (ex_4_1 (ex_add ⟨by omega, by omega⟩ (ix_30 (j := (36 + c)) (sh_210 hS) (by omega) (by omega) (by omega) (congrFun hM.1 _) (ex_mul ⟨by omega, by omega⟩ (ex_19 ?_))))))))))))))))
    obtain ⟨J21, e21, f21⟩ := c_tells (d := d) hS hM (vb := 0) (c := c) (f := (f : Int)) (wo := (((m_knows ρ c f : Nat) : Int) * (ρ (36 + c)))) (by omega) (by omega)
    refine (ix_46 (S' := [(.inr (.inl ((law_say n cl 0 (wl ρ c (f : Int))).getD (((m_knows ρ c f : Nat) : Int) * (ρ (36 + c))))))]) rfl (sh_208 hS) e21 rfl rfl (ex_0 (ex_0 (ix_45 (S' := [(.inl (m_within ((law_say n cl 0 (wl ρ c (f : Int))).getD (((m_knows ρ c f : Nat) : Int) * (ρ (36 + c)))) 0 9))]) rfl (c_within (v := ((law_say n cl 0 (wl ρ c (f : Int))).getD (((m_knows ρ c f : Nat) : Int) * (ρ (36 + c))))) ⟨by decide, by decide⟩ ⟨by decide, by decide⟩) rfl rfl ?_))))
    exact ex_53 ⟨_, rfl, f21⟩
  obtain ⟨o, e, I1, rfl, h⟩ := am_doQ (as := [(.inr (.inr (some 208))), (.inl (c : Int)), (.inl (f : Int))]) (Nat.le_of_ble_eq_true rfl) rfl w
  exact ⟨I1, e, h⟩
theorem c_soakedBy {d : Nat} {G : am_G} {I : Nat → Nat → Int} {P : Nat → Nat → Option Nat} (hS : ST G P) {ρ : Nat → Int} {n : Nat} {cl : Nat → Cl} (hM : ME I ρ n cl) {c f : Nat} (hc : c < 6) (hf : f < 5) : ∃ I1, am_call am_B am_M (d + 7) 233 [(.inr (.inr (some 208))), (.inl (c : Int)), (.inl (f : Int))] (G, I, P) = some (some (.inl (m_soak ρ n cl c f)), (G, I1, P)) ∧ (TF I I1) := by
  have hki := RW_ki hM.2.1 c hc
  have hea := RW_ea hM.2.1 f hf
  have hra := RW_ra hM.2.1 c hc
  have hkn := m_knows_1 (ρ := ρ) (c := c) (f := f)
  have w : am_ex (am_call am_B am_M (d + 6)) (am_B 233) (am_B 233 0) [some (.inr (.inr (some 208))), some (.inl (c : Int)), some (.inl (f : Int))] [] (G, I, P) (fun o => ∃ I1, o = (some (.inl (m_soak ρ n cl c f)), (G, I1, P)) ∧ (TF I I1)) := by
    refine (ex_6_0 (ex_0 (ex_4_1 (ex_4_2 (ex_6_0 (ix_41r (sh_208 hS) (pt_208_3 hS) (ex_0 (ex_4_1 (ex_add ⟨by omega, by omega⟩ (ix_30 (j := (36 + c)) (sh_210 hS) (by omega) (by omega) (by omega) (congrFun hM.1 _) (ex_19 ?_)))))))))))
    obtain ⟨J14, e14, f14⟩ := c_tells (d := d) hS hM (vb := 1) (c := c) (f := (f : Int)) (wo := (ρ (36 + c))) (by omega) (by omega)
    refine (ix_46 (S' := [(.inr (.inl ((law_say n cl 1 (wl ρ c (f : Int))).getD (ρ (36 + c)))))]) rfl (sh_208 hS) e14 rfl rfl (ex_0 (ex_0 (ix_45 (S' := [(.inl (m_within ((law_say n cl 1 (wl ρ c (f : Int))).getD (ρ (36 + c))) 0 9))]) rfl (c_within (v := ((law_say n cl 1 (wl ρ c (f : Int))).getD (ρ (36 + c)))) ⟨by decide, by decide⟩ ⟨by decide, by decide⟩) rfl rfl ?_))))
    exact ex_53 ⟨_, rfl, f14⟩
  obtain ⟨o, e, I1, rfl, h⟩ := am_doQ (as := [(.inr (.inr (some 208))), (.inl (c : Int)), (.inl (f : Int))]) (Nat.le_of_ble_eq_true rfl) rfl w
  exact ⟨I1, e, h⟩
theorem c_isBarred_t {d : Nat} {G : am_G} {I : Nat → Nat → Int} {P : Nat → Nat → Option Nat} (hS : ST G P) {ρ : Nat → Int} {n : Nat} {cl : Nat → Cl} (hM : ME I ρ n cl) {c f : Nat} (hc : c < 6) (hf : f < 5) (hb : m_bar ρ n cl c f) : ∃ I1, am_call am_B am_M (d + 7) 234 [(.inr (.inr (some 208))), (.inl (c : Int)), (.inl (f : Int))] (G, I, P) = some (some (.inl 1), (G, I1, P)) ∧ (TF I I1) := by
  have w : am_ex (am_call am_B am_M (d + 6)) (am_B 234) (am_B 234 0) [some (.inr (.inr (some 208))), some (.inl (c : Int)), some (.inl (f : Int))] [] (G, I, P) (fun o => ∃ I1, o = (some (.inl 1), (G, I1, P)) ∧ (TF I I1)) := by
    refine (ex_6_0 (ex_0 (ex_4_1 (ex_4_2 (ex_1 ?_)))))
    obtain ⟨J5, e5, f5⟩ := c_tells (d := d) hS hM (vb := 3) (c := c) (f := (f : Int)) (wo := 0) (by omega) (by omega)
    refine (ix_46 (S' := [(.inr (.inl ((law_say n cl 3 (wl ρ c (f : Int))).getD 0)))]) rfl (sh_208 hS) e5 rfl rfl (ex_1 ?_))
    refine ex_lc1 (fun hc10 => by exact absurd hb hc10) (fun hc10 => ?_)
    refine (ex_0 (ex_28 ?_))
    exact ex_57 (by decide) ⟨_, rfl, f5⟩
  obtain ⟨o, e, I1, rfl, h⟩ := am_doQ (as := [(.inr (.inr (some 208))), (.inl (c : Int)), (.inl (f : Int))]) (Nat.le_of_ble_eq_true rfl) rfl w
  exact ⟨I1, e, h⟩
theorem c_isBarred_f {d : Nat} {G : am_G} {I : Nat → Nat → Int} {P : Nat → Nat → Option Nat} (hS : ST G P) {ρ : Nat → Int} {n : Nat} {cl : Nat → Cl} (hM : ME I ρ n cl) {c f : Nat} (hc : c < 6) (hf : f < 5) (hb : ¬ m_bar ρ n cl c f) : ∃ I1, am_call am_B am_M (d + 7) 234 [(.inr (.inr (some 208))), (.inl (c : Int)), (.inl (f : Int))] (G, I, P) = some (some (.inl 0), (G, I1, P)) ∧ (TF I I1) := by
  have w : am_ex (am_call am_B am_M (d + 6)) (am_B 234) (am_B 234 0) [some (.inr (.inr (some 208))), some (.inl (c : Int)), some (.inl (f : Int))] [] (G, I, P) (fun o => ∃ I1, o = (some (.inl 0), (G, I1, P)) ∧ (TF I I1)) := by
    refine (ex_6_0 (ex_0 (ex_4_1 (ex_4_2 (ex_1 ?_)))))
    obtain ⟨J5, e5, f5⟩ := c_tells (d := d) hS hM (vb := 3) (c := c) (f := (f : Int)) (wo := 0) (by omega) (by omega)
    refine (ix_46 (S' := [(.inr (.inl ((law_say n cl 3 (wl ρ c (f : Int))).getD 0)))]) rfl (sh_208 hS) e5 rfl rfl (ex_1 ?_))
    refine ex_lc1 (fun hc10 => ?_) (fun hc10 => by exact absurd hc10 hb)
    refine (ex_0 (ex_58 ?_))
    exact ex_57 (by decide) ⟨_, rfl, f5⟩
  obtain ⟨o, e, I1, rfl, h⟩ := am_doQ (as := [(.inr (.inr (some 208))), (.inl (c : Int)), (.inl (f : Int))]) (Nat.le_of_ble_eq_true rfl) rfl w
  exact ⟨I1, e, h⟩
theorem c_roadOf2 {d : Nat} {G : am_G} {I : Nat → Nat → Int} {P : Nat → Nat → Option Nat} (hS : ST G P) {b o : Nat} {to_ x : Int} (hb : b < 6) (h0 : 0 ≤ to_ ∧ to_ < 6) (hx : to_.toNat = o) (hv : I 210 (52 + 6 * b + o) = x) : am_call am_B am_M (d + 1) 177 [.inr (.inr (some 208)), .inl (b : Int), .inl to_] (G, I, P) = some (some (.inl x), (G, I, P)) := by
  subst hv; subst hx
  have := c_roadOf (d := d) (G := G) (I := I) (P := P) hS (b := b) (o := to_.toNat) hb (by omega)
  rw [Int.toNat_of_nonneg h0.1] at this
  exact this
theorem c_goes_t {d : Nat} {G : am_G} {I : Nat → Nat → Int} {P : Nat → Nat → Option Nat} (hS : ST G P) {ρ : Nat → Int} {n : Nat} {cl : Nat → Cl} (hM : ME I ρ n cl) {c : Nat} (hc : c < 6) (hg : (0 ≤ (m_to ρ n cl c) ∧ (m_to ρ n cl c) ≤ 5) ∧ 0 < ρ (52 + 6 * (ρ (9 + c)).toNat + (m_to ρ n cl c).toNat)) : ∃ I1, am_call am_B am_M (d + 7) 235 [(.inr (.inr (some 208))), (.inl (c : Int))] (G, I, P) = some (some (.inl (m_to ρ n cl c)), (G, I1, P)) ∧ (TF I I1) := by
  have hat := RW_at hM.2.1 c hc
  have w : am_ex (am_call am_B am_M (d + 6)) (am_B 235) (am_B 235 0) [some (.inr (.inr (some 208))), some (.inl (c : Int)), none, none, none] [] (G, I, P) (fun o => ∃ I1, o = (some (.inl (m_to ρ n cl c)), (G, I1, P)) ∧ (TF I I1)) := by
    refine (ex_6_0 (ix_41r (sh_208 hS) (pt_208_3 hS) (ex_0 (ex_4_1 (ex_add ⟨by omega, by omega⟩ (ix_30 (j := (9 + c)) (sh_210 hS) (by omega) (by omega) (by omega) ((congrFun hM.1 _).trans (Int.toNat_of_nonneg hat.1).symm) (ex_7_2 rfl (ex_6_0 (ex_0 (ex_4_1 (ex_0 (ex_4_2 (ex_0 (ex_add ⟨by omega, by omega⟩ (ex_0 (ex_12 (by decide) ((am_d4r (by omega) (by decide) (by omega) (by decide)).trans (by rw [Int.toNat_of_nonneg hat.1])) (ex_19 ?_)))))))))))))))))
    obtain ⟨J21, e21, f21⟩ := c_tells (d := d) hS hM (vb := 2) (c := c) (f := -1) (wo := (ρ (9 + c) + 1) % 6) (by omega) (by omega)
    rw [show (law_say n cl 2 (wl ρ c (-1))).getD ((ρ (9 + c) + 1) % 6) = m_to ρ n cl c from rfl] at e21
    refine (ix_46 (S' := [(.inr (.inl (m_to ρ n cl c)))]) rfl (sh_208 hS) e21 rfl rfl (ex_8_3 rfl (ex_5_3 (ex_1 (ex_1 ?_)))))
    have hb30 : ((0 : Int) ≤ (m_to ρ n cl c) ∧ ((m_to ρ n cl c) : Int) ≤ 5) := by omega
    refine (ix_45 (S' := [(.inl 1)]) rfl (c_in_t hb30) rfl rfl (ex_if0 (fun hc => by exfalso; revert hc; decide) (fun _ => ?_)))
    refine (ex_6_0 (ex_4_2 (ex_5_3 (ex_20 ⟨by omega, by omega⟩ (ix_46 (S' := [(.inl (ρ (52 + 6 * (ρ (9 + c)).toNat + (m_to ρ n cl c).toNat)))]) rfl (sh_208 hS) (c_roadOf2 hS (b := (ρ (9 + c)).toNat) (o := (m_to ρ n cl c).toNat) (by omega) (by omega) rfl (((f21 _ _ (by decide) (by decide) (by omega))).trans (congrFun hM.1 _))) rfl rfl ?_)))))
    refine ex_if5 (fun hc43 => by exfalso; omega) (fun hc43 => ?_)
    refine (ex_5_3 (ex_20 ⟨by omega, by omega⟩ (ex_28 ?_)))
    exact ex_53 ⟨_, rfl, f21⟩
  obtain ⟨o, e, I1, rfl, h⟩ := am_doQ (as := [(.inr (.inr (some 208))), (.inl (c : Int))]) (Nat.le_of_ble_eq_true rfl) rfl w
  exact ⟨I1, e, h⟩
theorem c_goes_f {d : Nat} {G : am_G} {I : Nat → Nat → Int} {P : Nat → Nat → Option Nat} (hS : ST G P) {ρ : Nat → Int} {n : Nat} {cl : Nat → Cl} (hM : ME I ρ n cl) {c : Nat} (hc : c < 6) (hg : ¬ ((0 ≤ (m_to ρ n cl c) ∧ (m_to ρ n cl c) ≤ 5) ∧ 0 < ρ (52 + 6 * (ρ (9 + c)).toNat + (m_to ρ n cl c).toNat))) : ∃ I1, am_call am_B am_M (d + 7) 235 [(.inr (.inr (some 208))), (.inl (c : Int))] (G, I, P) = some (some (.inl ((ρ (9 + c)).toNat : Int)), (G, I1, P)) ∧ (TF I I1) := by
  have hat := RW_at hM.2.1 c hc
  have w : am_ex (am_call am_B am_M (d + 6)) (am_B 235) (am_B 235 0) [some (.inr (.inr (some 208))), some (.inl (c : Int)), none, none, none] [] (G, I, P) (fun o => ∃ I1, o = (some (.inl ((ρ (9 + c)).toNat : Int)), (G, I1, P)) ∧ (TF I I1)) := by
    refine (ex_6_0 (ix_41r (sh_208 hS) (pt_208_3 hS) (ex_0 (ex_4_1 (ex_add ⟨by omega, by omega⟩ (ix_30 (j := (9 + c)) (sh_210 hS) (by omega) (by omega) (by omega) ((congrFun hM.1 _).trans (Int.toNat_of_nonneg hat.1).symm) (ex_7_2 rfl (ex_6_0 (ex_0 (ex_4_1 (ex_0 (ex_4_2 (ex_0 (ex_add ⟨by omega, by omega⟩ (ex_0 (ex_12 (by decide) ((am_d4r (by omega) (by decide) (by omega) (by decide)).trans (by rw [Int.toNat_of_nonneg hat.1])) (ex_19 ?_)))))))))))))))))
    obtain ⟨J21, e21, f21⟩ := c_tells (d := d) hS hM (vb := 2) (c := c) (f := -1) (wo := (ρ (9 + c) + 1) % 6) (by omega) (by omega)
    rw [show (law_say n cl 2 (wl ρ c (-1))).getD ((ρ (9 + c) + 1) % 6) = m_to ρ n cl c from rfl] at e21
    refine (ix_46 (S' := [(.inr (.inl (m_to ρ n cl c)))]) rfl (sh_208 hS) e21 rfl rfl (ex_8_3 rfl (ex_5_3 (ex_1 (ex_1 ?_)))))
    by_cases hb30 : ((0 : Int) ≤ (m_to ρ n cl c) ∧ ((m_to ρ n cl c) : Int) ≤ 5)
    · refine (ix_45 (S' := [(.inl 1)]) rfl (c_in_t hb30) rfl rfl (ex_if0 (fun hc => by exfalso; revert hc; decide) (fun _ => ?_)))
      refine (ex_6_0 (ex_4_2 (ex_5_3 (ex_20 ⟨by omega, by omega⟩ (ix_46 (S' := [(.inl (ρ (52 + 6 * (ρ (9 + c)).toNat + (m_to ρ n cl c).toNat)))]) rfl (sh_208 hS) (c_roadOf2 hS (b := (ρ (9 + c)).toNat) (o := (m_to ρ n cl c).toNat) (by omega) (by omega) rfl (((f21 _ _ (by decide) (by decide) (by omega))).trans (congrFun hM.1 _))) rfl rfl ?_)))))
      refine ex_if5 (fun hc43 => ?_) (fun hc43 => by exfalso; omega)
      refine (ex_4_2 (ex_58 ?_))
      exact ex_53 ⟨_, rfl, f21⟩
    · refine (ix_45 (S' := [(.inl 0)]) rfl (c_in_f hb30) rfl rfl (ex_if0 (fun _ => ?_) (fun hc => by exfalso; revert hc; decide)))
      refine (ex_4_2 (ex_58 ?_))
      exact ex_53 ⟨_, rfl, f21⟩
  obtain ⟨o, e, I1, rfl, h⟩ := am_doQ (as := [(.inr (.inr (some 208))), (.inl (c : Int))]) (Nat.le_of_ble_eq_true rfl) rfl w
  exact ⟨I1, e, h⟩
theorem c_goesTo {d : Nat} {G : am_G} {I : Nat → Nat → Int} {P : Nat → Nat → Option Nat} (hS : ST G P) {ρ : Nat → Int} {n : Nat} {cl : Nat → Cl} (hM : ME I ρ n cl) {c : Nat} (hc : c < 6) : ∃ I1, am_call am_B am_M (d + 7) 235 [.inr (.inr (some 208)), .inl (c : Int)] (G, I, P) = some (some (.inl (m_goes ρ n cl c)), (G, I1, P)) ∧ TF I I1 := by
  unfold m_goes
  have hat := RW_at hM.2.1 c hc
  split
  · rename_i hg; exact c_goes_t hS hM hc hg
  · rename_i hg
    have := c_goes_f (d := d) hS hM hc hg
    rw [Int.toNat_of_nonneg hat.1] at this
    exact this
theorem c_comesTo_e {d : Nat} {G : am_G} {I : Nat → Nat → Int} {P : Nat → Nat → Option Nat} (hS : ST G P) {ρ : Nat → Int} (hρ : I 210 = ρ) {from_ over : Nat} (hf : from_ < 6) (ho : over < 64) : am_call am_B am_M (d + 2) 178 [.inr (.inr (some 208)), .inl (from_ : Int), .inl (over : Int)] (G, I, P) = some (some (.inl ((m_comes ρ from_ over : Nat) : Int)), (G, I, P)) := by
  subst hρ; exact c_comesTo hS hf ho
theorem c_areJoined_t {d : Nat} {G : am_G} {I : Nat → Nat → Int} {P : Nat → Nat → Option Nat} (hS : ST G P) {ρ : Nat → Int} {n : Nat} {cl : Nat → Cl} (hM : ME I ρ n cl) {b o : Nat} (hbb : b < 6) (hoo : o < 6) (hb : m_join ρ b o) : am_call am_B am_M (d + 3) 180 [(.inr (.inr (some 208))), (.inl (b : Int)), (.inl (o : Int))] (G, I, P) = some (some (.inl 1), (G, I, P)) := by
  have hsm := RW_sm hM.2.1
  refine am_doL (L := [some (.inr (.inr (some 208))), some (.inl (b : Int)), some (.inl (o : Int))]) (Nat.le_of_ble_eq_true rfl) rfl ?_
  refine (ex_6_0 (ex_4_1 (ex_6_0 (ix_46 (S' := [(.inl (((wh (ρ 8).toNat) : Nat) : Int)), (.inl (b : Int)), (.inr (.inr (some 208)))]) rfl (sh_208 hS) (c_whole_e hS ((congrFun hM.1 _).trans (Int.toNat_of_nonneg hsm.1).symm) (by omega)) rfl rfl (ix_46 (S' := [(.inl (((m_comes ρ b (wh (ρ 8).toNat)) : Nat) : Int))]) rfl (sh_208 hS) (c_comesTo_e hS hM.1 (from_ := b) (over := (wh (ρ 8).toNat)) (by omega) wh_lt) rfl rfl (ex_4_2 ?_))))))
  have hb10 : (Nat.testBit (m_comes ρ b (wh (ρ 8).toNat)) o = true) := by exact hb
  refine (ix_45 (S' := [(.inl 1)]) rfl (c_is_t (Nat.lt_trans (m_comes_lt (by omega)) (by decide)) (by omega) hb10) rfl rfl ?_)
  exact ex_57 (by decide) rfl
theorem c_areJoined_f {d : Nat} {G : am_G} {I : Nat → Nat → Int} {P : Nat → Nat → Option Nat} (hS : ST G P) {ρ : Nat → Int} {n : Nat} {cl : Nat → Cl} (hM : ME I ρ n cl) {b o : Nat} (hbb : b < 6) (hoo : o < 6) (hb : ¬ m_join ρ b o) : am_call am_B am_M (d + 3) 180 [(.inr (.inr (some 208))), (.inl (b : Int)), (.inl (o : Int))] (G, I, P) = some (some (.inl 0), (G, I, P)) := by
  have hsm := RW_sm hM.2.1
  refine am_doL (L := [some (.inr (.inr (some 208))), some (.inl (b : Int)), some (.inl (o : Int))]) (Nat.le_of_ble_eq_true rfl) rfl ?_
  refine (ex_6_0 (ex_4_1 (ex_6_0 (ix_46 (S' := [(.inl (((wh (ρ 8).toNat) : Nat) : Int)), (.inl (b : Int)), (.inr (.inr (some 208)))]) rfl (sh_208 hS) (c_whole_e hS ((congrFun hM.1 _).trans (Int.toNat_of_nonneg hsm.1).symm) (by omega)) rfl rfl (ix_46 (S' := [(.inl (((m_comes ρ b (wh (ρ 8).toNat)) : Nat) : Int))]) rfl (sh_208 hS) (c_comesTo_e hS hM.1 (from_ := b) (over := (wh (ρ 8).toNat)) (by omega) wh_lt) rfl rfl (ex_4_2 ?_))))))
  have hb10 : ¬ ((Nat.testBit (m_comes ρ b (wh (ρ 8).toNat)) o = true)) := by exact hb
  refine (ix_45 (S' := [(.inl 0)]) rfl (c_is_f (Nat.lt_trans (m_comes_lt (by omega)) (by decide)) (by omega) hb10) rfl rfl ?_)
  exact ex_57 (by decide) rfl
theorem c_canRing_t {d : Nat} {G : am_G} {I : Nat → Nat → Int} {P : Nat → Nat → Option Nat} (hS : ST G P) {ρ : Nat → Int} {n : Nat} {cl : Nat → Cl} (hM : ME I ρ n cl) {c f : Nat} (hc : c < 6) (hf : f < 5) (hcan : m_can ρ n cl c f) : ∃ I1, am_call am_B am_M (d + 8) 236 [(.inr (.inr (some 208))), (.inl (c : Int)), (.inl (f : Int))] (G, I, P) = some (some (.inl 1), (G, I1, P)) ∧ (TF I I1) := by
  have hat := RW_at hM.2.1 c hc
  have hby := RW_by hM.2.1 f hf
  have hbar := hcan.2
  have w : am_ex (am_call am_B am_M (d + 7)) (am_B 236) (am_B 236 0) [some (.inr (.inr (some 208))), some (.inl (c : Int)), some (.inl (f : Int))] [] (G, I, P) (fun o => ∃ I1, o = (some (.inl 1), (G, I1, P)) ∧ (TF I I1)) := by
    refine (ex_6_0 (ex_6_0 (ix_41r (sh_208 hS) (pt_208_3 hS) (ex_0 (ex_4_1 (ex_add ⟨by omega, by omega⟩ (ix_30 (j := (9 + c)) (sh_210 hS) (by omega) (by omega) (by omega) ((congrFun hM.1 _).trans (Int.toNat_of_nonneg hat.1).symm) (ex_6_0 (ix_41r (sh_208 hS) (pt_208_3 hS) (ex_0 (ex_4_2 (ex_add ⟨by omega, by omega⟩ (ix_30 (j := (42 + f)) (sh_210 hS) (by omega) (by omega) (by omega) ((congrFun hM.1 _).trans (Int.toNat_of_nonneg hby.1).symm) ?_)))))))))))))
    have hb19 : (m_join ρ (ρ (9 + c)).toNat (ρ (42 + f)).toNat) := by exact hcan.1
    refine (ix_46 (S' := [(.inl 1)]) rfl (sh_208 hS) (c_areJoined_t hS hM (by omega) (by omega) hb19) rfl rfl (ex_if0 (fun hc => by exfalso; revert hc; decide) (fun _ => ?_)))
    refine (ex_6_0 (ex_4_1 (ex_4_2 ?_)))
    obtain ⟨J28, e28, f28⟩ := c_isBarred_f (d := d) hS hM hc hf hbar
    refine (ix_46 (S' := [(.inl 0)]) rfl (sh_208 hS) e28 rfl rfl (ex_if1 (fun hc => by exfalso; revert hc; decide) (fun _ => ?_)))
    refine (ex_0 (ex_28 ?_))
    exact ex_57 (by decide) ⟨_, rfl, f28⟩
  obtain ⟨o, e, I1, rfl, h⟩ := am_doQ (as := [(.inr (.inr (some 208))), (.inl (c : Int)), (.inl (f : Int))]) (Nat.le_of_ble_eq_true rfl) rfl w
  exact ⟨I1, e, h⟩
theorem c_canRing_b {d : Nat} {G : am_G} {I : Nat → Nat → Int} {P : Nat → Nat → Option Nat} (hS : ST G P) {ρ : Nat → Int} {n : Nat} {cl : Nat → Cl} (hM : ME I ρ n cl) {c f : Nat} (hc : c < 6) (hf : f < 5) (hbar : m_bar ρ n cl c f) (hj : m_join ρ (ρ (9 + c)).toNat (ρ (42 + f)).toNat) : ∃ I1, am_call am_B am_M (d + 8) 236 [(.inr (.inr (some 208))), (.inl (c : Int)), (.inl (f : Int))] (G, I, P) = some (some (.inl 0), (G, I1, P)) ∧ (TF I I1) := by
  have hat := RW_at hM.2.1 c hc
  have hby := RW_by hM.2.1 f hf
  have w : am_ex (am_call am_B am_M (d + 7)) (am_B 236) (am_B 236 0) [some (.inr (.inr (some 208))), some (.inl (c : Int)), some (.inl (f : Int))] [] (G, I, P) (fun o => ∃ I1, o = (some (.inl 0), (G, I1, P)) ∧ (TF I I1)) := by
    refine (ex_6_0 (ex_6_0 (ix_41r (sh_208 hS) (pt_208_3 hS) (ex_0 (ex_4_1 (ex_add ⟨by omega, by omega⟩ (ix_30 (j := (9 + c)) (sh_210 hS) (by omega) (by omega) (by omega) ((congrFun hM.1 _).trans (Int.toNat_of_nonneg hat.1).symm) (ex_6_0 (ix_41r (sh_208 hS) (pt_208_3 hS) (ex_0 (ex_4_2 (ex_add ⟨by omega, by omega⟩ (ix_30 (j := (42 + f)) (sh_210 hS) (by omega) (by omega) (by omega) ((congrFun hM.1 _).trans (Int.toNat_of_nonneg hby.1).symm) ?_)))))))))))))
    have hb19 : (m_join ρ (ρ (9 + c)).toNat (ρ (42 + f)).toNat) := by exact hj
    refine (ix_46 (S' := [(.inl 1)]) rfl (sh_208 hS) (c_areJoined_t hS hM (by omega) (by omega) hb19) rfl rfl (ex_if0 (fun hc => by exfalso; revert hc; decide) (fun _ => ?_)))
    refine (ex_6_0 (ex_4_1 (ex_4_2 ?_)))
    obtain ⟨J28, e28, f28⟩ := c_isBarred_t (d := d) hS hM hc hf hbar
    refine (ix_46 (S' := [(.inl 1)]) rfl (sh_208 hS) e28 rfl rfl (ex_if1 (fun _ => ?_) (fun hc => by exfalso; revert hc; decide)))
    refine (ex_0 (ex_58 ?_))
    exact ex_57 (by decide) ⟨_, rfl, f28⟩
  obtain ⟨o, e, I1, rfl, h⟩ := am_doQ (as := [(.inr (.inr (some 208))), (.inl (c : Int)), (.inl (f : Int))]) (Nat.le_of_ble_eq_true rfl) rfl w
  exact ⟨I1, e, h⟩
theorem c_canRing_j {d : Nat} {G : am_G} {I : Nat → Nat → Int} {P : Nat → Nat → Option Nat} (hS : ST G P) {ρ : Nat → Int} {n : Nat} {cl : Nat → Cl} (hM : ME I ρ n cl) {c f : Nat} (hc : c < 6) (hf : f < 5) (hj : ¬ m_join ρ (ρ (9 + c)).toNat (ρ (42 + f)).toNat) : ∃ I1, am_call am_B am_M (d + 8) 236 [(.inr (.inr (some 208))), (.inl (c : Int)), (.inl (f : Int))] (G, I, P) = some (some (.inl 0), (G, I1, P)) ∧ (TF I I1) := by
  have hat := RW_at hM.2.1 c hc
  have hby := RW_by hM.2.1 f hf
  have w : am_ex (am_call am_B am_M (d + 7)) (am_B 236) (am_B 236 0) [some (.inr (.inr (some 208))), some (.inl (c : Int)), some (.inl (f : Int))] [] (G, I, P) (fun o => ∃ I1, o = (some (.inl 0), (G, I1, P)) ∧ (TF I I1)) := by
    refine (ex_6_0 (ex_6_0 (ix_41r (sh_208 hS) (pt_208_3 hS) (ex_0 (ex_4_1 (ex_add ⟨by omega, by omega⟩ (ix_30 (j := (9 + c)) (sh_210 hS) (by omega) (by omega) (by omega) ((congrFun hM.1 _).trans (Int.toNat_of_nonneg hat.1).symm) (ex_6_0 (ix_41r (sh_208 hS) (pt_208_3 hS) (ex_0 (ex_4_2 (ex_add ⟨by omega, by omega⟩ (ix_30 (j := (42 + f)) (sh_210 hS) (by omega) (by omega) (by omega) ((congrFun hM.1 _).trans (Int.toNat_of_nonneg hby.1).symm) ?_)))))))))))))
    have hb19 : ¬ ((m_join ρ (ρ (9 + c)).toNat (ρ (42 + f)).toNat)) := by exact hj
    refine (ix_46 (S' := [(.inl 0)]) rfl (sh_208 hS) (c_areJoined_f hS hM (by omega) (by omega) hb19) rfl rfl (ex_if0 (fun _ => ?_) (fun hc => by exfalso; revert hc; decide)))
    refine (ex_0 (ex_58 ?_))
    exact ex_57 (by decide) ⟨_, rfl, TF_refl⟩
  obtain ⟨o, e, I1, rfl, h⟩ := am_doQ (as := [(.inr (.inr (some 208))), (.inl (c : Int)), (.inl (f : Int))]) (Nat.le_of_ble_eq_true rfl) rfl w
  exact ⟨I1, e, h⟩
theorem c_canRing_f {d : Nat} {G : am_G} {I : Nat → Nat → Int} {P : Nat → Nat → Option Nat} (hS : ST G P) {ρ : Nat → Int} {n : Nat} {cl : Nat → Cl} (hM : ME I ρ n cl) {c f : Nat} (hc : c < 6) (hf : f < 5) (hcan : ¬ m_can ρ n cl c f) : ∃ I1, am_call am_B am_M (d + 8) 236 [.inr (.inr (some 208)), .inl (c : Int), .inl (f : Int)] (G, I, P) = some (some (.inl 0), (G, I1, P)) ∧ TF I I1 := by
  by_cases hj : m_join ρ (ρ (9 + c)).toNat (ρ (42 + f)).toNat
  · have hbar : m_bar ρ n cl c f := Classical.byContradiction fun z => hcan ⟨hj, z⟩
    exact c_canRing_b hS hM hc hf hbar hj
  · exact c_canRing_j hS hM hc hf hj
