/-! ===== a season's nights ===== -/
/-- how many nights a season has -/
def snk (ρ : Nat → Int) (n : Nat) : Nat := if (n : Int) ≤ 999 - ρ 5 then n else (999 - ρ 5).toNat
def SzI (ρ : Nat → Int) (n : Nat) (cl : Nat → Cl) (i : Nat) (z : Sz) : Prop := RW z.1 ∧ LawNow z.1 n cl ∧ z.1 5 = ρ 5 + (i : Int) ∧ (∀ j, ¬ (5 ≤ j ∧ j < 30) → z.1 j = ρ j) ∧ (0 ≤ z.2.1 ∧ z.2.1 ≤ 1000002) ∧ (0 ≤ z.2.2 ∧ z.2.2 ≤ (i : Int))
theorem SzI_0 {ρ : Nat → Int} {n : Nat} {cl : Nat → Cl} {seed : Int} (hR : RW ρ) (hL : LawNow ρ n cl) (hs : 0 ≤ seed ∧ seed ≤ 1000000) : SzI ρ n cl 0 (ρ, seed, 0) := ⟨hR, hL, by show ρ 5 = ρ 5 + ((0 : Nat) : Int); omega, fun _ _ => rfl, by show 0 ≤ seed ∧ seed ≤ 1000002; omega, by show (0 : Int) ≤ 0 ∧ (0 : Int) ≤ ((0 : Nat) : Int); omega⟩
theorem SzI_s {ρ : Nat → Int} {n : Nat} {cl : Nat → Cl} {i : Nat} {z : Sz} (h : SzI ρ n cl i z) (h0 : 0 < ρ 0) (h1 : 0 < ρ 1) (h5 : z.1 5 < 999) : SzI ρ n cl (i + 1) (sst n cl z) := by
  obtain ⟨a, b, c, d, e, f⟩ := h
  have z0 : z.1 0 = ρ 0 := d 0 (by omega)
  have z1 : z.1 1 = ρ 1 := d 1 (by omega)
  have n1 := RW_n1 a
  have hf := sfo_lt (z := z) (by omega)
  have hf5 : sfo z < 5 := by omega
  have hh := sho_lt (z := z)
  have r1 := RW_ssd (n := n) (cl := cl) (c := scl z) (how := sho z) a hf5 hh
  have o5 : ssd z.1 n cl (scl z) (sfo z) (sho z) 5 = z.1 5 := ssd_out hf5 hh (by omega)
  have g := srg_b (ρ := z.1) (n := n) (cl := cl) (c := scl z) (f := sfo z) (how := sho z)
  have q := dnx_b (s := dnx (dnx z.2.1))
  unfold sst
  rw [if_pos h5]
  refine ⟨RW_pass r1 (by omega), LawNow_pass r1 (LawNow_ssd hf5 hh b), ?_, fun j hj => ?_, q, ?_⟩
  · show m_pass _ n cl 5 = _
    rw [m_pass_5, o5, c]; omega
  · show m_pass _ n cl j = _
    rw [m_pass_out r1 (by omega), ssd_out hf5 hh (by omega)]; exact d j hj
  · show 0 ≤ z.2.2 + _ ∧ z.2.2 + _ ≤ _
    omega
theorem snk_b {ρ : Nat → Int} {n : Nat} (h5 : ρ 5 ≤ 999) : snk ρ n ≤ n ∧ (snk ρ n : Int) ≤ 999 - ρ 5 ∧ (snk ρ n = n ∨ ρ 5 + (snk ρ n : Int) = 999) := by
  unfold snk
  split <;> omega
