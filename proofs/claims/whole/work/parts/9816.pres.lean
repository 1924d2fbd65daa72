/-! ===== one instruction keeps what can be ===== -/
def am_KO (x : am_H) (K : Nat → List am_V → am_H → Option am_O) : Prop :=
  ∀ (y : Nat) (as : List am_V) (h : am_H) (v : Option am_V) (h' : am_H), y < 288 → K y as h = some (v, h') → am_okS as → am_okh x h → (∀ z, v = some z → am_okv z) ∧ am_okh x h' ∧ h.1.1 ≤ h'.1.1 ∧ h.1.2.1 ≤ h'.1.2.1
section AMP
variable {cc : ByteArray} {x : am_H} {pc nx cn : Nat} {L L' : am_L} {S S' : List am_V} {h h' : am_H} {rt : Option FieldType} {ini : Bool} {bp : Nat → Nat} {cst : Int} {ns : List Nat} {K : Nat → List am_V → am_H → Option am_O} {j : Option Nat}
theorem sp_0 (hg : am_gb cn cc rt ini bp nx (0, pc, cst, ns) = true) (hs : am_step K (0, pc, cst, ns) L S h = some (.inr (j, L', S', h'))) (o1 : am_okL L) (o2 : am_okS S) (o3 : am_okh x h) : am_okL L' ∧ am_okS S' ∧ am_okh x h' ∧ h.1.1 ≤ h'.1.1 ∧ h.1.2.1 ≤ h'.1.2.1 := by
  simp only [am_gb] at hg
  simp only [am_step] at hs
  rw [Bool.and_eq_true] at hg
  obtain ⟨rfl, rfl, rfl, rfl⟩ := am_nx_inj hs
  exact ⟨o1, am_oki (show -2147483648 ≤ cst ∧ cst ≤ 2147483647 from of_decide_eq_true hg.1) o2, o3, Nat.le_refl _, Nat.le_refl _⟩
theorem sp_1 (hg : am_gb cn cc rt ini bp nx (1, pc, cst, ns) = true) (hs : am_step K (1, pc, cst, ns) L S h = some (.inr (j, L', S', h'))) (o1 : am_okL L) (o2 : am_okS S) (o3 : am_okh x h) : am_okL L' ∧ am_okS S' ∧ am_okh x h' ∧ h.1.1 ≤ h'.1.1 ∧ h.1.2.1 ≤ h'.1.2.1 := by
  simp only [am_gb] at hg
  simp only [am_step] at hs
  rw [Bool.and_eq_true] at hg
  obtain ⟨rfl, rfl, rfl, rfl⟩ := am_nx_inj hs
  exact ⟨o1, am_okj (show -9223372036854775808 ≤ cst ∧ cst ≤ 9223372036854775807 from of_decide_eq_true hg.1) o2, o3, Nat.le_refl _, Nat.le_refl _⟩
theorem sp_2 (hg : am_gb cn cc rt ini bp nx (2, pc, cst, ns) = true) (hs : am_step K (2, pc, cst, ns) L S h = some (.inr (j, L', S', h'))) (o1 : am_okL L) (o2 : am_okS S) (o3 : am_okh x h) : am_okL L' ∧ am_okS S' ∧ am_okh x h' ∧ h.1.1 ≤ h'.1.1 ∧ h.1.2.1 ≤ h'.1.2.1 := by
  simp only [am_gb] at hg
  simp only [am_step] at hs
  obtain ⟨rfl, rfl, rfl, rfl⟩ := am_nx_inj hs
  exact ⟨o1, am_okr o2, o3, Nat.le_refl _, Nat.le_refl _⟩
theorem sp_3 (hg : am_gb cn cc rt ini bp nx (3, pc, cst, ns) = true) (hs : am_step K (3, pc, cst, ns) L S h = some (.inr (j, L', S', h'))) (o1 : am_okL L) (o2 : am_okS S) (o3 : am_okh x h) : am_okL L' ∧ am_okS S' ∧ am_okh x h' ∧ h.1.1 ≤ h'.1.1 ∧ h.1.2.1 ≤ h'.1.2.1 := by
  simp only [am_gb] at hg
  simp only [am_step] at hs
  split at hs
  · obtain ⟨rfl, rfl, rfl, rfl⟩ := am_nx_inj hs
    exact ⟨o1, am_okr o2, o3, Nat.le_refl _, Nat.le_refl _⟩
  · cases hs
theorem sp_4 (hg : am_gb cn cc rt ini bp nx (4, pc, cst, ns) = true) (hs : am_step K (4, pc, cst, ns) L S h = some (.inr (j, L', S', h'))) (o1 : am_okL L) (o2 : am_okS S) (o3 : am_okh x h) : am_okL L' ∧ am_okS S' ∧ am_okh x h' ∧ h.1.1 ≤ h'.1.1 ∧ h.1.2.1 ≤ h'.1.2.1 := by
  simp only [am_gb] at hg
  simp only [am_step] at hs
  split at hs
  · rename_i k
    split at hs
    · rename_i v hv
      obtain ⟨rfl, rfl, rfl, rfl⟩ := am_nx_inj hs
      exact ⟨o1, am_okc (am_ld_ok o1 hv) o2, o3, Nat.le_refl _, Nat.le_refl _⟩
    · cases hs
  · cases hs
theorem sp_5 (hg : am_gb cn cc rt ini bp nx (5, pc, cst, ns) = true) (hs : am_step K (5, pc, cst, ns) L S h = some (.inr (j, L', S', h'))) (o1 : am_okL L) (o2 : am_okS S) (o3 : am_okh x h) : am_okL L' ∧ am_okS S' ∧ am_okh x h' ∧ h.1.1 ≤ h'.1.1 ∧ h.1.2.1 ≤ h'.1.2.1 := by
  simp only [am_gb] at hg
  simp only [am_step] at hs
  split at hs
  · rename_i k
    split at hs
    · rename_i v hv
      obtain ⟨rfl, rfl, rfl, rfl⟩ := am_nx_inj hs
      exact ⟨o1, am_okc (am_ld_ok o1 hv) o2, o3, Nat.le_refl _, Nat.le_refl _⟩
    · cases hs
  · cases hs
theorem sp_6 (hg : am_gb cn cc rt ini bp nx (6, pc, cst, ns) = true) (hs : am_step K (6, pc, cst, ns) L S h = some (.inr (j, L', S', h'))) (o1 : am_okL L) (o2 : am_okS S) (o3 : am_okh x h) : am_okL L' ∧ am_okS S' ∧ am_okh x h' ∧ h.1.1 ≤ h'.1.1 ∧ h.1.2.1 ≤ h'.1.2.1 := by
  simp only [am_gb] at hg
  simp only [am_step] at hs
  split at hs
  · rename_i k
    split at hs
    · rename_i v hv
      obtain ⟨rfl, rfl, rfl, rfl⟩ := am_nx_inj hs
      exact ⟨o1, am_okc (am_ld_ok o1 hv) o2, o3, Nat.le_refl _, Nat.le_refl _⟩
    · cases hs
  · cases hs
theorem sp_7 (hg : am_gb cn cc rt ini bp nx (7, pc, cst, ns) = true) (hs : am_step K (7, pc, cst, ns) L S h = some (.inr (j, L', S', h'))) (o1 : am_okL L) (o2 : am_okS S) (o3 : am_okh x h) : am_okL L' ∧ am_okS S' ∧ am_okh x h' ∧ h.1.1 ≤ h'.1.1 ∧ h.1.2.1 ≤ h'.1.2.1 := by
  simp only [am_gb] at hg
  simp only [am_step] at hs
  split at hs
  · obtain ⟨g1, hs⟩ := am_ok_inj hs
    obtain ⟨rfl, rfl, rfl, rfl⟩ := am_nx_inj hs
    exact ⟨am_okL_st1 o1 (am_okd o2), am_okt o2, o3, Nat.le_refl _, Nat.le_refl _⟩
  · cases hs
theorem sp_8 (hg : am_gb cn cc rt ini bp nx (8, pc, cst, ns) = true) (hs : am_step K (8, pc, cst, ns) L S h = some (.inr (j, L', S', h'))) (o1 : am_okL L) (o2 : am_okS S) (o3 : am_okh x h) : am_okL L' ∧ am_okS S' ∧ am_okh x h' ∧ h.1.1 ≤ h'.1.1 ∧ h.1.2.1 ≤ h'.1.2.1 := by
  simp only [am_gb] at hg
  simp only [am_step] at hs
  split at hs
  · obtain ⟨g1, hs⟩ := am_ok_inj hs
    obtain ⟨rfl, rfl, rfl, rfl⟩ := am_nx_inj hs
    exact ⟨am_okL_st2 o1 (am_okd o2), am_okt o2, o3, Nat.le_refl _, Nat.le_refl _⟩
  · cases hs
theorem sp_9 (hg : am_gb cn cc rt ini bp nx (9, pc, cst, ns) = true) (hs : am_step K (9, pc, cst, ns) L S h = some (.inr (j, L', S', h'))) (o1 : am_okL L) (o2 : am_okS S) (o3 : am_okh x h) : am_okL L' ∧ am_okS S' ∧ am_okh x h' ∧ h.1.1 ≤ h'.1.1 ∧ h.1.2.1 ≤ h'.1.2.1 := by
  simp only [am_gb] at hg
  simp only [am_step] at hs
  split at hs
  · obtain ⟨g1, hs⟩ := am_ok_inj hs
    obtain ⟨rfl, rfl, rfl, rfl⟩ := am_nx_inj hs
    exact ⟨am_okL_st1 o1 (am_okd o2), am_okt o2, o3, Nat.le_refl _, Nat.le_refl _⟩
  · cases hs
theorem sp_10 (hg : am_gb cn cc rt ini bp nx (10, pc, cst, ns) = true) (hs : am_step K (10, pc, cst, ns) L S h = some (.inr (j, L', S', h'))) (o1 : am_okL L) (o2 : am_okS S) (o3 : am_okh x h) : am_okL L' ∧ am_okS S' ∧ am_okh x h' ∧ h.1.1 ≤ h'.1.1 ∧ h.1.2.1 ≤ h'.1.2.1 := by
  simp only [am_gb] at hg
  simp only [am_step] at hs
  split at hs
  · rename_i k
    split at hs
    · rename_i v hv
      obtain ⟨rfl, rfl, rfl, rfl⟩ := am_nx_inj hs
      exact ⟨am_okL_st1 o1 (am_r4_to _), o2, o3, Nat.le_refl _, Nat.le_refl _⟩
    · cases hs
  · cases hs
theorem sp_11 (hg : am_gb cn cc rt ini bp nx (11, pc, cst, ns) = true) (hs : am_step K (11, pc, cst, ns) L S h = some (.inr (j, L', S', h'))) (o1 : am_okL L) (o2 : am_okS S) (o3 : am_okh x h) : am_okL L' ∧ am_okS S' ∧ am_okh x h' ∧ h.1.1 ≤ h'.1.1 ∧ h.1.2.1 ≤ h'.1.2.1 := by
  simp only [am_gb] at hg
  simp only [am_step] at hs
  split at hs
  · obtain ⟨rfl, rfl, rfl, rfl⟩ := am_nx_inj hs
    exact ⟨o1, am_oki (am_r4_to _) (am_okt (am_okt o2)), o3, Nat.le_refl _, Nat.le_refl _⟩
  · cases hs
theorem sp_15 (hg : am_gb cn cc rt ini bp nx (15, pc, cst, ns) = true) (hs : am_step K (15, pc, cst, ns) L S h = some (.inr (j, L', S', h'))) (o1 : am_okL L) (o2 : am_okS S) (o3 : am_okh x h) : am_okL L' ∧ am_okS S' ∧ am_okh x h' ∧ h.1.1 ≤ h'.1.1 ∧ h.1.2.1 ≤ h'.1.2.1 := by
  simp only [am_gb] at hg
  simp only [am_step] at hs
  split at hs
  · obtain ⟨rfl, rfl, rfl, rfl⟩ := am_nx_inj hs
    exact ⟨o1, am_okj (am_r8_to _) (am_okt (am_okt o2)), o3, Nat.le_refl _, Nat.le_refl _⟩
  · cases hs
theorem sp_12 (hg : am_gb cn cc rt ini bp nx (12, pc, cst, ns) = true) (hs : am_step K (12, pc, cst, ns) L S h = some (.inr (j, L', S', h'))) (o1 : am_okL L) (o2 : am_okS S) (o3 : am_okh x h) : am_okL L' ∧ am_okS S' ∧ am_okh x h' ∧ h.1.1 ≤ h'.1.1 ∧ h.1.2.1 ≤ h'.1.2.1 := by
  simp only [am_gb] at hg
  simp only [am_step] at hs
  split at hs
  · obtain ⟨g1, hs⟩ := am_ok_inj hs
    obtain ⟨rfl, rfl, rfl, rfl⟩ := am_nx_inj hs
    exact ⟨o1, am_oki (am_r4_to _) (am_okt (am_okt o2)), o3, Nat.le_refl _, Nat.le_refl _⟩
  · cases hs
theorem sp_16 (hg : am_gb cn cc rt ini bp nx (16, pc, cst, ns) = true) (hs : am_step K (16, pc, cst, ns) L S h = some (.inr (j, L', S', h'))) (o1 : am_okL L) (o2 : am_okS S) (o3 : am_okh x h) : am_okL L' ∧ am_okS S' ∧ am_okh x h' ∧ h.1.1 ≤ h'.1.1 ∧ h.1.2.1 ≤ h'.1.2.1 := by
  simp only [am_gb] at hg
  simp only [am_step] at hs
  split at hs
  · obtain ⟨g1, hs⟩ := am_ok_inj hs
    obtain ⟨rfl, rfl, rfl, rfl⟩ := am_nx_inj hs
    exact ⟨o1, am_okj (am_r8_to _) (am_okt (am_okt o2)), o3, Nat.le_refl _, Nat.le_refl _⟩
  · cases hs
theorem sp_14 (hg : am_gb cn cc rt ini bp nx (14, pc, cst, ns) = true) (hs : am_step K (14, pc, cst, ns) L S h = some (.inr (j, L', S', h'))) (o1 : am_okL L) (o2 : am_okS S) (o3 : am_okh x h) : am_okL L' ∧ am_okS S' ∧ am_okh x h' ∧ h.1.1 ≤ h'.1.1 ∧ h.1.2.1 ≤ h'.1.2.1 := by
  simp only [am_gb] at hg
  simp only [am_step] at hs
  split at hs
  · obtain ⟨rfl, rfl, rfl, rfl⟩ := am_nx_inj hs
    exact ⟨o1, am_oki (am_r4_to _) (am_okt o2), o3, Nat.le_refl _, Nat.le_refl _⟩
  · cases hs
theorem sp_18 (hg : am_gb cn cc rt ini bp nx (18, pc, cst, ns) = true) (hs : am_step K (18, pc, cst, ns) L S h = some (.inr (j, L', S', h'))) (o1 : am_okL L) (o2 : am_okS S) (o3 : am_okh x h) : am_okL L' ∧ am_okS S' ∧ am_okh x h' ∧ h.1.1 ≤ h'.1.1 ∧ h.1.2.1 ≤ h'.1.2.1 := by
  simp only [am_gb] at hg
  simp only [am_step] at hs
  split at hs
  · obtain ⟨rfl, rfl, rfl, rfl⟩ := am_nx_inj hs
    exact ⟨o1, am_oki (am_cm_r _ _) (am_okt (am_okt o2)), o3, Nat.le_refl _, Nat.le_refl _⟩
  · cases hs
theorem sp_19 (hg : am_gb cn cc rt ini bp nx (19, pc, cst, ns) = true) (hs : am_step K (19, pc, cst, ns) L S h = some (.inr (j, L', S', h'))) (o1 : am_okL L) (o2 : am_okS S) (o3 : am_okh x h) : am_okL L' ∧ am_okS S' ∧ am_okh x h' ∧ h.1.1 ≤ h'.1.1 ∧ h.1.2.1 ≤ h'.1.2.1 := by
  simp only [am_gb] at hg
  simp only [am_step] at hs
  split at hs
  · obtain ⟨rfl, rfl, rfl, rfl⟩ := am_nx_inj hs
    exact ⟨o1, am_okj (am_r4_8 (am_okd o2)) (am_okt o2), o3, Nat.le_refl _, Nat.le_refl _⟩
  · cases hs
theorem sp_20 (hg : am_gb cn cc rt ini bp nx (20, pc, cst, ns) = true) (hs : am_step K (20, pc, cst, ns) L S h = some (.inr (j, L', S', h'))) (o1 : am_okL L) (o2 : am_okS S) (o3 : am_okh x h) : am_okL L' ∧ am_okS S' ∧ am_okh x h' ∧ h.1.1 ≤ h'.1.1 ∧ h.1.2.1 ≤ h'.1.2.1 := by
  simp only [am_gb] at hg
  simp only [am_step] at hs
  split at hs
  · obtain ⟨rfl, rfl, rfl, rfl⟩ := am_nx_inj hs
    exact ⟨o1, am_oki (am_r4_to _) (am_okt o2), o3, Nat.le_refl _, Nat.le_refl _⟩
  · cases hs
theorem sp_21 (hg : am_gb cn cc rt ini bp nx (21, pc, cst, ns) = true) (hs : am_step K (21, pc, cst, ns) L S h = some (.inr (j, L', S', h'))) (o1 : am_okL L) (o2 : am_okS S) (o3 : am_okh x h) : am_okL L' ∧ am_okS S' ∧ am_okh x h' ∧ h.1.1 ≤ h'.1.1 ∧ h.1.2.1 ≤ h'.1.2.1 := by
  simp only [am_gb] at hg
  simp only [am_step] at hs
  split at hs
  · obtain ⟨rfl, rfl, rfl, rfl⟩ := am_nx_inj hs
    exact ⟨o1, am_oki (am_r4_to _) (am_okt o2), o3, Nat.le_refl _, Nat.le_refl _⟩
  · cases hs
theorem sp_22 (hg : am_gb cn cc rt ini bp nx (22, pc, cst, ns) = true) (hs : am_step K (22, pc, cst, ns) L S h = some (.inr (j, L', S', h'))) (o1 : am_okL L) (o2 : am_okS S) (o3 : am_okh x h) : am_okL L' ∧ am_okS S' ∧ am_okh x h' ∧ h.1.1 ≤ h'.1.1 ∧ h.1.2.1 ≤ h'.1.2.1 := by
  simp only [am_gb] at hg
  simp only [am_step] at hs
  split at hs
  · obtain ⟨g1, hs⟩ := am_ok_inj hs
    obtain ⟨rfl, rfl, rfl, rfl⟩ := am_nx_inj hs
    exact ⟨o1, am_okc (am_okd o2) o2, o3, Nat.le_refl _, Nat.le_refl _⟩
  · cases hs
theorem sp_23 (hg : am_gb cn cc rt ini bp nx (23, pc, cst, ns) = true) (hs : am_step K (23, pc, cst, ns) L S h = some (.inr (j, L', S', h'))) (o1 : am_okL L) (o2 : am_okS S) (o3 : am_okh x h) : am_okL L' ∧ am_okS S' ∧ am_okh x h' ∧ h.1.1 ≤ h'.1.1 ∧ h.1.2.1 ≤ h'.1.2.1 := by
  simp only [am_gb] at hg
  simp only [am_step] at hs
  split at hs
  · obtain ⟨g1, hs⟩ := am_ok_inj hs
    obtain ⟨rfl, rfl, rfl, rfl⟩ := am_nx_inj hs
    exact ⟨o1, am_okc (am_okd o2) (am_okc (am_okd (am_okt o2)) o2), o3, Nat.le_refl _, Nat.le_refl _⟩
  · cases hs
theorem sp_24 (hg : am_gb cn cc rt ini bp nx (24, pc, cst, ns) = true) (hs : am_step K (24, pc, cst, ns) L S h = some (.inr (j, L', S', h'))) (o1 : am_okL L) (o2 : am_okS S) (o3 : am_okh x h) : am_okL L' ∧ am_okS S' ∧ am_okh x h' ∧ h.1.1 ≤ h'.1.1 ∧ h.1.2.1 ≤ h'.1.2.1 := by
  simp only [am_gb] at hg
  simp only [am_step] at hs
  split at hs
  · obtain ⟨g1, hs⟩ := am_ok_inj hs
    obtain ⟨rfl, rfl, rfl, rfl⟩ := am_nx_inj hs
    exact ⟨o1, am_okt o2, o3, Nat.le_refl _, Nat.le_refl _⟩
  · cases hs
theorem sp_25 (hg : am_gb cn cc rt ini bp nx (25, pc, cst, ns) = true) (hs : am_step K (25, pc, cst, ns) L S h = some (.inr (j, L', S', h'))) (o1 : am_okL L) (o2 : am_okS S) (o3 : am_okh x h) : am_okL L' ∧ am_okS S' ∧ am_okh x h' ∧ h.1.1 ≤ h'.1.1 ∧ h.1.2.1 ≤ h'.1.2.1 := by
  simp only [am_gb] at hg
  simp only [am_step] at hs
  split at hs
  · unfold am_if at hs
    obtain ⟨rfl, rfl, rfl, rfl⟩ := am_jp_inj hs
    exact ⟨o1, am_okt o2, o3, Nat.le_refl _, Nat.le_refl _⟩
  · cases hs
theorem sp_26 (hg : am_gb cn cc rt ini bp nx (26, pc, cst, ns) = true) (hs : am_step K (26, pc, cst, ns) L S h = some (.inr (j, L', S', h'))) (o1 : am_okL L) (o2 : am_okS S) (o3 : am_okh x h) : am_okL L' ∧ am_okS S' ∧ am_okh x h' ∧ h.1.1 ≤ h'.1.1 ∧ h.1.2.1 ≤ h'.1.2.1 := by
  simp only [am_gb] at hg
  simp only [am_step] at hs
  split at hs
  · unfold am_if at hs
    obtain ⟨rfl, rfl, rfl, rfl⟩ := am_jp_inj hs
    exact ⟨o1, am_okt (am_okt o2), o3, Nat.le_refl _, Nat.le_refl _⟩
  · cases hs
theorem sp_27 (hg : am_gb cn cc rt ini bp nx (27, pc, cst, ns) = true) (hs : am_step K (27, pc, cst, ns) L S h = some (.inr (j, L', S', h'))) (o1 : am_okL L) (o2 : am_okS S) (o3 : am_okh x h) : am_okL L' ∧ am_okS S' ∧ am_okh x h' ∧ h.1.1 ≤ h'.1.1 ∧ h.1.2.1 ≤ h'.1.2.1 := by
  simp only [am_gb] at hg
  simp only [am_step] at hs
  split at hs
  · unfold am_if at hs
    obtain ⟨rfl, rfl, rfl, rfl⟩ := am_jp_inj hs
    exact ⟨o1, am_okt o2, o3, Nat.le_refl _, Nat.le_refl _⟩
  · cases hs
theorem sp_28 (hg : am_gb cn cc rt ini bp nx (28, pc, cst, ns) = true) (hs : am_step K (28, pc, cst, ns) L S h = some (.inr (j, L', S', h'))) (o1 : am_okL L) (o2 : am_okS S) (o3 : am_okh x h) : am_okL L' ∧ am_okS S' ∧ am_okh x h' ∧ h.1.1 ≤ h'.1.1 ∧ h.1.2.1 ≤ h'.1.2.1 := by
  simp only [am_gb] at hg
  simp only [am_step] at hs
  split at hs
  · obtain ⟨rfl, rfl, rfl, rfl⟩ := am_jp_inj hs
    exact ⟨o1, o2, o3, Nat.le_refl _, Nat.le_refl _⟩
  · cases hs
theorem sp_29 (hg : am_gb cn cc rt ini bp nx (29, pc, cst, ns) = true) (hs : am_step K (29, pc, cst, ns) L S h = some (.inr (j, L', S', h'))) (o1 : am_okL L) (o2 : am_okS S) (o3 : am_okh x h) : am_okL L' ∧ am_okS S' ∧ am_okh x h' ∧ h.1.1 ≤ h'.1.1 ∧ h.1.2.1 ≤ h'.1.2.1 := by
  simp only [am_gb] at hg
  simp only [am_step] at hs
  split at hs
  · obtain ⟨rfl, rfl, rfl, rfl⟩ := am_jp_inj hs
    exact ⟨o1, am_okt o2, o3, Nat.le_refl _, Nat.le_refl _⟩
  · cases hs
theorem sp_58 (hg : am_gb cn cc rt ini bp nx (58, pc, cst, ns) = true) (hs : am_step K (58, pc, cst, ns) L S h = some (.inr (j, L', S', h'))) (o1 : am_okL L) (o2 : am_okS S) (o3 : am_okh x h) : am_okL L' ∧ am_okS S' ∧ am_okh x h' ∧ h.1.1 ≤ h'.1.1 ∧ h.1.2.1 ≤ h'.1.2.1 := by
  simp only [am_gb] at hg
  simp only [am_step] at hs
  split at hs
  · obtain ⟨rfl, rfl, rfl, rfl⟩ := am_jp_inj hs
    exact ⟨o1, o2, o3, Nat.le_refl _, Nat.le_refl _⟩
  · cases hs
theorem sp_30 (hg : am_gb cn cc rt ini bp nx (30, pc, cst, ns) = true) (hs : am_step K (30, pc, cst, ns) L S h = some (.inr (j, L', S', h'))) (o1 : am_okL L) (o2 : am_okS S) (o3 : am_okh x h) : am_okL L' ∧ am_okS S' ∧ am_okh x h' ∧ h.1.1 ≤ h'.1.1 ∧ h.1.2.1 ≤ h'.1.2.1 := by
  simp only [am_gb] at hg
  simp only [am_step] at hs
  split at hs
  · rename_i i q S1
    obtain ⟨g1, hs⟩ := am_ok_inj hs
    obtain ⟨rfl, rfl, rfl, rfl⟩ := am_nx_inj hs
    refine ⟨o1, am_oki ?_ (am_okt (am_okt o2)), o3, Nat.le_refl _, Nat.le_refl _⟩
    rw [Bool.or_eq_true] at g1
    rcases g1 with g1 | g1
    · obtain ⟨n, hn, -, -⟩ := am_pk_spec g1
      exact (o3.2.2.1 q i.toNat).2 (by rw [hn]; show (0 : Nat) ≠ 3; omega)
    · obtain ⟨n, hn, -, -⟩ := am_pk_spec g1
      exact (o3.2.2.1 q i.toNat).2 (by rw [hn]; show (7 : Nat) ≠ 3; omega)
  · cases hs
theorem sp_31 (hg : am_gb cn cc rt ini bp nx (31, pc, cst, ns) = true) (hs : am_step K (31, pc, cst, ns) L S h = some (.inr (j, L', S', h'))) (o1 : am_okL L) (o2 : am_okS S) (o3 : am_okh x h) : am_okL L' ∧ am_okS S' ∧ am_okh x h' ∧ h.1.1 ≤ h'.1.1 ∧ h.1.2.1 ≤ h'.1.2.1 := by
  simp only [am_gb] at hg
  simp only [am_step] at hs
  split at hs
  · rename_i t i q S1
    obtain ⟨g1, hs⟩ := am_ok_inj hs
    obtain ⟨rfl, rfl, rfl, rfl⟩ := am_nx_inj hs
    rw [Bool.and_eq_true] at hg
    have ht := of_decide_eq_true hg.1
    obtain ⟨n, hn, -, -⟩ := am_pk_spec g1
    exact ⟨o1, am_oki ((o3.2.2.1 q i.toNat).2 (by rw [hn]; show t ≠ 3; omega)) (am_okt (am_okt o2)), o3, Nat.le_refl _, Nat.le_refl _⟩
  · cases hs
theorem sp_32 (hg : am_gb cn cc rt ini bp nx (32, pc, cst, ns) = true) (hs : am_step K (32, pc, cst, ns) L S h = some (.inr (j, L', S', h'))) (o1 : am_okL L) (o2 : am_okS S) (o3 : am_okh x h) : am_okL L' ∧ am_okS S' ∧ am_okh x h' ∧ h.1.1 ≤ h'.1.1 ∧ h.1.2.1 ≤ h'.1.2.1 := by
  simp only [am_gb] at hg
  simp only [am_step] at hs
  split at hs
  · rename_i i q S1
    obtain ⟨g1, hs⟩ := am_ok_inj hs
    obtain ⟨rfl, rfl, rfl, rfl⟩ := am_nx_inj hs
    exact ⟨o1, am_okj (o3.2.2.1 q i.toNat).1 (am_okt (am_okt o2)), o3, Nat.le_refl _, Nat.le_refl _⟩
  · cases hs
theorem sp_33 (hg : am_gb cn cc rt ini bp nx (33, pc, cst, ns) = true) (hs : am_step K (33, pc, cst, ns) L S h = some (.inr (j, L', S', h'))) (o1 : am_okL L) (o2 : am_okS S) (o3 : am_okh x h) : am_okL L' ∧ am_okS S' ∧ am_okh x h' ∧ h.1.1 ≤ h'.1.1 ∧ h.1.2.1 ≤ h'.1.2.1 := by
  simp only [am_gb] at hg
  simp only [am_step] at hs
  split at hs
  · obtain ⟨g1, hs⟩ := am_ok_inj hs
    obtain ⟨rfl, rfl, rfl, rfl⟩ := am_nx_inj hs
    exact ⟨o1, am_okr (am_okt (am_okt o2)), o3, Nat.le_refl _, Nat.le_refl _⟩
  · cases hs
theorem sp_34 (hex : am_ext x) (hg : am_gb cn cc rt ini bp nx (34, pc, cst, ns) = true) (hs : am_step K (34, pc, cst, ns) L S h = some (.inr (j, L', S', h'))) (o1 : am_okL L) (o2 : am_okS S) (o3 : am_okh x h) : am_okL L' ∧ am_okS S' ∧ am_okh x h' ∧ h.1.1 ≤ h'.1.1 ∧ h.1.2.1 ≤ h'.1.2.1 := by
  simp only [am_gb] at hg
  simp only [am_step] at hs
  split at hs
  · obtain ⟨g1, hs⟩ := am_ok_inj hs
    obtain ⟨rfl, rfl, rfl, rfl⟩ := am_nx_inj hs
    obtain ⟨n, hn, -, -⟩ := am_pk_spec g1
    exact ⟨o1, am_okt (am_okt (am_okt o2)), am_okh_I o3 (am_at_arr o3 hex hn (by omega)).1 ⟨am_r4_8 (am_okd o2), fun _ => am_okd o2⟩, Nat.le_refl _, Nat.le_refl _⟩
  · cases hs
theorem sp_35 (hex : am_ext x) (hg : am_gb cn cc rt ini bp nx (35, pc, cst, ns) = true) (hs : am_step K (35, pc, cst, ns) L S h = some (.inr (j, L', S', h'))) (o1 : am_okL L) (o2 : am_okS S) (o3 : am_okh x h) : am_okL L' ∧ am_okS S' ∧ am_okh x h' ∧ h.1.1 ≤ h'.1.1 ∧ h.1.2.1 ≤ h'.1.2.1 := by
  simp only [am_gb] at hg
  simp only [am_step] at hs
  split at hs
  · rename_i t v i q S1
    obtain ⟨g1, hs⟩ := am_ok_inj hs
    obtain ⟨rfl, rfl, rfl, rfl⟩ := am_nx_inj hs
    rw [Bool.and_eq_true] at hg g1
    have ht := of_decide_eq_true hg.1
    obtain ⟨n, hn, -, -⟩ := am_pk_spec g1.1
    have hrv : am_r4 (if t = 1 then am_by v else v) := by
      split
      · exact am_r4_to _
      · exact am_okd o2
    exact ⟨o1, am_okt (am_okt (am_okt o2)), am_okh_I o3 (am_at_arr o3 hex hn (by omega)).1 ⟨am_r4_8 hrv, fun _ => hrv⟩, Nat.le_refl _, Nat.le_refl _⟩
  · cases hs
theorem sp_36 (hex : am_ext x) (hg : am_gb cn cc rt ini bp nx (36, pc, cst, ns) = true) (hs : am_step K (36, pc, cst, ns) L S h = some (.inr (j, L', S', h'))) (o1 : am_okL L) (o2 : am_okS S) (o3 : am_okh x h) : am_okL L' ∧ am_okS S' ∧ am_okh x h' ∧ h.1.1 ≤ h'.1.1 ∧ h.1.2.1 ≤ h'.1.2.1 := by
  simp only [am_gb] at hg
  simp only [am_step] at hs
  split at hs
  · obtain ⟨g1, hs⟩ := am_ok_inj hs
    obtain ⟨rfl, rfl, rfl, rfl⟩ := am_nx_inj hs
    obtain ⟨n, hn, -, -⟩ := am_pk_spec g1
    exact ⟨o1, am_okt (am_okt (am_okt o2)), am_okh_I o3 (am_at_arr o3 hex hn (by omega)).1 ⟨am_okd o2, fun z => by rw [hn] at z; exact absurd rfl z⟩, Nat.le_refl _, Nat.le_refl _⟩
  · cases hs
theorem sp_37 (hg : am_gb cn cc rt ini bp nx (37, pc, cst, ns) = true) (hs : am_step K (37, pc, cst, ns) L S h = some (.inr (j, L', S', h'))) (o1 : am_okL L) (o2 : am_okS S) (o3 : am_okh x h) : am_okL L' ∧ am_okS S' ∧ am_okh x h' ∧ h.1.1 ≤ h'.1.1 ∧ h.1.2.1 ≤ h'.1.2.1 := by
  simp only [am_gb] at hg
  simp only [am_step] at hs
  split at hs
  · obtain ⟨g1, hs⟩ := am_ok_inj hs
    obtain ⟨rfl, rfl, rfl, rfl⟩ := am_nx_inj hs
    exact ⟨o1, am_okt (am_okt (am_okt o2)), o3, Nat.le_refl _, Nat.le_refl _⟩
  · cases hs
theorem sp_38 (hg : am_gb cn cc rt ini bp nx (38, pc, cst, ns) = true) (hs : am_step K (38, pc, cst, ns) L S h = some (.inr (j, L', S', h'))) (o1 : am_okL L) (o2 : am_okS S) (o3 : am_okh x h) : am_okL L' ∧ am_okS S' ∧ am_okh x h' ∧ h.1.1 ≤ h'.1.1 ∧ h.1.2.1 ≤ h'.1.2.1 := by
  simp only [am_gb] at hg
  simp only [am_step] at hs
  split at hs
  · rename_i q S1
    split at hs
    · rename_i n hn
      obtain ⟨rfl, rfl, rfl, rfl⟩ := am_nx_inj hs
      refine ⟨o1, am_oki ?_ (am_okt o2), o3, Nat.le_refl _, Nat.le_refl _⟩
      unfold am_len at hn
      split at hn
      · rename_i t n' e1
        split at hn
        · cases hn
          have := (o3.2.2.2.1 q t n e1).1
          exact ⟨by omega, by omega⟩
        · cases hn
      · cases hn
    · cases hs
  · cases hs
theorem sp_39 (hg : am_gb cn cc rt ini bp nx (39, pc, cst, ns) = true) (hs : am_step K (39, pc, cst, ns) L S h = some (.inr (j, L', S', h'))) (o1 : am_okL L) (o2 : am_okS S) (o3 : am_okh x h) : am_okL L' ∧ am_okS S' ∧ am_okh x h' ∧ h.1.1 ≤ h'.1.1 ∧ h.1.2.1 ≤ h'.1.2.1 := by
  simp only [am_gb] at hg
  simp only [am_step] at hs
  split at hs
  · rename_i t k n S1
    obtain ⟨g1, hs⟩ := am_ok_inj hs
    have g1 := of_decide_eq_true g1
    obtain ⟨rfl, rfl, rfl, rfl⟩ := am_nx_inj hs
    have ht : t ≤ 5 := by
      simp only [Bool.or_eq_true, Bool.and_eq_true] at hg
      rcases hg with ((((⟨a, b⟩ | ⟨a, b⟩) | ⟨a, b⟩) | ⟨a, b⟩) | ⟨⟨a, a2⟩, b⟩) | ⟨⟨a, a2⟩, b⟩ <;> have a := of_decide_eq_true a <;> omega
    exact ⟨o1, am_okr (am_okt o2), am_okh_mk o3 (fun t' k e => by cases e; omega) (fun c e => by cases e), Nat.le_succ _, Nat.le_add_right _ _⟩
  · cases hs
theorem sp_41 (hg : am_gb cn cc rt ini bp nx (41, pc, cst, ns) = true) (hs : am_step K (41, pc, cst, ns) L S h = some (.inr (j, L', S', h'))) (o1 : am_okL L) (o2 : am_okS S) (o3 : am_okh x h) : am_okL L' ∧ am_okS S' ∧ am_okh x h' ∧ h.1.1 ≤ h'.1.1 ∧ h.1.2.1 ≤ h'.1.2.1 := by
  simp only [am_gb] at hg
  simp only [am_step] at hs
  split at hs
  · rename_i ci k kd jj q S1
    obtain ⟨g1, hs⟩ := am_ok_inj hs
    obtain ⟨rfl, rfl, rfl, rfl⟩ := am_nx_inj hs
    simp only [Bool.and_eq_true] at hg
    obtain ⟨⟨a, b⟩, c'⟩ := hg
    have a := of_decide_eq_true a
    have hob := am_ob_spec g1
    refine ⟨o1, am_okc ?_ (am_okt o2), o3, Nat.le_refl _, Nat.le_refl _⟩
    have h3 := o3.2.2.1 q k
    by_cases z1 : kd = 1
    · subst z1
      exact h3.1
    · by_cases z2 : kd = 2
      · subst z2
        trivial
      · have e1 : am_gf kd (h.2.1 q k) (h.2.2 q k) = .inl (h.2.1 q k) := by
          unfold am_gf
          split
          · exact absurd rfl z1
          · exact absurd rfl z2
          · rfl
        rw [e1]
        refine h3.2 ?_
        rw [hob]
        show (am_fk ci).getD k 0 ≠ 1
        rw [← a.2.2]
        exact z1
  · cases hs
theorem sp_42 (hex : am_ext x) (hg : am_gb cn cc rt ini bp nx (42, pc, cst, ns) = true) (hs : am_step K (42, pc, cst, ns) L S h = some (.inr (j, L', S', h'))) (o1 : am_okL L) (o2 : am_okS S) (o3 : am_okh x h) : am_okL L' ∧ am_okS S' ∧ am_okh x h' ∧ h.1.1 ≤ h'.1.1 ∧ h.1.2.1 ≤ h'.1.2.1 := by
  simp only [am_gb] at hg
  simp only [am_step] at hs
  split at hs
  · rename_i ci k kd jj v q S1
    obtain ⟨g1, hs⟩ := am_ok_inj hs
    obtain ⟨rfl, rfl, rfl, rfl⟩ := am_nx_inj hs
    simp only [Bool.and_eq_true] at hg g1
    have a := of_decide_eq_true hg.1.1.1.1
    have hob := am_ob_spec g1.1
    exact ⟨o1, am_okt (am_okt o2), am_okh_I o3 (am_at_obj o3 hex hob (by omega)).1 ⟨am_r4_8 (am_okd o2), fun _ => am_okd o2⟩, Nat.le_refl _, Nat.le_refl _⟩
  · rename_i ci k kd jj v q S1
    obtain ⟨g1, hs⟩ := am_ok_inj hs
    obtain ⟨rfl, rfl, rfl, rfl⟩ := am_nx_inj hs
    simp only [Bool.and_eq_true, Bool.or_eq_true] at hg g1
    obtain ⟨⟨⟨⟨a, b⟩, c'⟩, f⟩, t⟩ := hg
    have a := of_decide_eq_true a
    have g2 := of_decide_eq_true g1.2
    have hob := am_ob_spec g1.1
    have ht : (am_fk ci).getD k 0 = 1 := by
      rcases t with ((⟨t1, t2⟩ | ⟨t1, t2⟩) | ⟨t1, t2⟩) | ⟨⟨t1, t2⟩, t3⟩
      · have t1 := of_decide_eq_true t1
        omega
      · have t1 := of_decide_eq_true t1
        omega
      · exact (of_decide_eq_true t2).2
      · have t1 := of_decide_eq_true t1
        omega
    exact ⟨o1, am_okt (am_okt o2), am_okh_I o3 (am_at_obj o3 hex hob (by omega)).1 ⟨am_okd o2, fun z => by rw [hob] at z; exact absurd ht z⟩, Nat.le_refl _, Nat.le_refl _⟩
  · obtain ⟨g1, hs⟩ := am_ok_inj hs
    obtain ⟨rfl, rfl, rfl, rfl⟩ := am_nx_inj hs
    exact ⟨o1, am_okt (am_okt o2), o3, Nat.le_refl _, Nat.le_refl _⟩
  · cases hs
theorem sp_44 (hg : am_gb cn cc rt ini bp nx (44, pc, cst, ns) = true) (hs : am_step K (44, pc, cst, ns) L S h = some (.inr (j, L', S', h'))) (o1 : am_okL L) (o2 : am_okS S) (o3 : am_okh x h) : am_okL L' ∧ am_okS S' ∧ am_okh x h' ∧ h.1.1 ≤ h'.1.1 ∧ h.1.2.1 ≤ h'.1.2.1 := by
  simp only [am_gb] at hg
  simp only [am_step] at hs
  split at hs
  · rename_i ci k
    obtain ⟨rfl, rfl, rfl, rfl⟩ := am_nx_inj hs
    simp only [Bool.and_eq_true] at hg
    have a := of_decide_eq_true hg.1.1.1
    exact ⟨o1, am_okr o2, am_okh_mk o3 (fun t' k e => by cases e) (fun c e => by cases e; exact a), Nat.le_succ _, Nat.le_add_right _ _⟩
  · cases hs
theorem sp_45 (hK : am_KO x K) (hg : am_gb cn cc rt ini bp nx (45, pc, cst, ns) = true) (hs : am_step K (45, pc, cst, ns) L S h = some (.inr (j, L', S', h'))) (o1 : am_okL L) (o2 : am_okS S) (o3 : am_okh x h) : am_okL L' ∧ am_okS S' ∧ am_okh x h' ∧ h.1.1 ≤ h'.1.1 ∧ h.1.2.1 ≤ h'.1.2.1 := by
  simp only [am_gb] at hg
  simp only [am_step] at hs
  split at hs
  · rename_i y n k
    obtain ⟨g1, hs⟩ := am_ok_inj hs
    obtain ⟨v, h1, e1, rfl, rfl, rfl, rfl⟩ := am_back_inj hs
    simp only [Bool.and_eq_true] at hg
    have a := of_decide_eq_true hg.1.1.1
    obtain ⟨a1, a2, a3⟩ := hK y _ h v h1 a.1 e1 (am_ok_take o2) o3
    exact ⟨o1, am_ok_app a1 (am_ok_drop o2), a2, a3⟩
  · cases hs
theorem sp_46 (hK : am_KO x K) (hg : am_gb cn cc rt ini bp nx (46, pc, cst, ns) = true) (hs : am_step K (46, pc, cst, ns) L S h = some (.inr (j, L', S', h'))) (o1 : am_okL L) (o2 : am_okS S) (o3 : am_okh x h) : am_okL L' ∧ am_okS S' ∧ am_okh x h' ∧ h.1.1 ≤ h'.1.1 ∧ h.1.2.1 ≤ h'.1.2.1 := by
  simp only [am_gb] at hg
  simp only [am_step] at hs
  split at hs
  · rename_i y n ci k
    split at hs
    · rename_i q as hta
      obtain ⟨g1, hs⟩ := am_ok_inj hs
      obtain ⟨v, h1, e1, rfl, rfl, rfl, rfl⟩ := am_back_inj hs
      simp only [Bool.and_eq_true] at hg
      have a := of_decide_eq_true hg.1.1
      have hok := am_ok_take (n := n) o2
      rw [hta] at hok
      obtain ⟨a1, a2, a3⟩ := hK y _ h v h1 a.1 e1 hok o3
      exact ⟨o1, am_ok_app a1 (am_ok_drop o2), a2, a3⟩
    · cases hs
  · cases hs
theorem sp_47 (hg : am_gb cn cc rt ini bp nx (47, pc, cst, ns) = true) (hs : am_step K (47, pc, cst, ns) L S h = some (.inr (j, L', S', h'))) (o1 : am_okL L) (o2 : am_okS S) (o3 : am_okh x h) : am_okL L' ∧ am_okS S' ∧ am_okh x h' ∧ h.1.1 ≤ h'.1.1 ∧ h.1.2.1 ≤ h'.1.2.1 := by
  simp only [am_gb] at hg
  simp only [am_step] at hs
  split at hs
  · obtain ⟨g1, hs⟩ := am_ok_inj hs
    obtain ⟨rfl, rfl, rfl, rfl⟩ := am_nx_inj hs
    exact ⟨o1, am_okt o2, o3, Nat.le_refl _, Nat.le_refl _⟩
  · cases hs
theorem sp_48 (hg : am_gb cn cc rt ini bp nx (48, pc, cst, ns) = true) (hs : am_step K (48, pc, cst, ns) L S h = some (.inr (j, L', S', h'))) (o1 : am_okL L) (o2 : am_okS S) (o3 : am_okh x h) : am_okL L' ∧ am_okS S' ∧ am_okh x h' ∧ h.1.1 ≤ h'.1.1 ∧ h.1.2.1 ≤ h'.1.2.1 := by
  simp only [am_gb] at hg
  simp only [am_step] at hs
  split at hs
  · obtain ⟨g1, hs⟩ := am_ok_inj hs
    obtain ⟨rfl, rfl, rfl, rfl⟩ := am_nx_inj hs
    have hb4 := am_okd o2
    have ha4 := am_okd (am_okt o2)
    exact ⟨o1, am_oki (by split <;> split <;> assumption) (am_okt (am_okt o2)), o3, Nat.le_refl _, Nat.le_refl _⟩
  · cases hs
theorem sp_50 (hg : am_gb cn cc rt ini bp nx (50, pc, cst, ns) = true) (hs : am_step K (50, pc, cst, ns) L S h = some (.inr (j, L', S', h'))) (o1 : am_okL L) (o2 : am_okS S) (o3 : am_okh x h) : am_okL L' ∧ am_okS S' ∧ am_okh x h' ∧ h.1.1 ≤ h'.1.1 ∧ h.1.2.1 ≤ h'.1.2.1 := by
  simp only [am_gb] at hg
  simp only [am_step] at hs
  split at hs
  · rename_i q S1
    split at hs
    · rename_i n e1
      obtain ⟨g1, hs⟩ := am_ok_inj hs
      obtain ⟨rfl, rfl, rfl, rfl⟩ := am_nx_inj hs
      have := (o3.2.2.2.1 q 8 n e1).1
      exact ⟨o1, am_oki ⟨by omega, by omega⟩ (am_okt o2), o3, Nat.le_refl _, Nat.le_refl _⟩
    · cases hs
  · cases hs
theorem sp_51 (hg : am_gb cn cc rt ini bp nx (51, pc, cst, ns) = true) (hs : am_step K (51, pc, cst, ns) L S h = some (.inr (j, L', S', h'))) (o1 : am_okL L) (o2 : am_okS S) (o3 : am_okh x h) : am_okL L' ∧ am_okS S' ∧ am_okh x h' ∧ h.1.1 ≤ h'.1.1 ∧ h.1.2.1 ≤ h'.1.2.1 := by
  simp only [am_gb] at hg
  simp only [am_step] at hs
  split at hs
  · rename_i i q S1
    obtain ⟨g1, hs⟩ := am_ok_inj hs
    obtain ⟨rfl, rfl, rfl, rfl⟩ := am_nx_inj hs
    rw [Bool.and_eq_true] at g1
    obtain ⟨n, hn, -, -⟩ := am_pk_spec g1.1
    exact ⟨o1, am_oki ((o3.2.2.1 q i.toNat).2 (by rw [hn]; show (8 : Nat) ≠ 3; omega)) (am_okt (am_okt o2)), o3, Nat.le_refl _, Nat.le_refl _⟩
  · cases hs
theorem sp_52 (hex : am_ext x) (hg : am_gb cn cc rt ini bp nx (52, pc, cst, ns) = true) (hs : am_step K (52, pc, cst, ns) L S h = some (.inr (j, L', S', h'))) (o1 : am_okL L) (o2 : am_okS S) (o3 : am_okh x h) : am_okL L' ∧ am_okS S' ∧ am_okh x h' ∧ h.1.1 ≤ h'.1.1 ∧ h.1.2.1 ≤ h'.1.2.1 := by
  simp only [am_gb] at hg
  simp only [am_step] at hs
  split at hs
  · rename_i n dp q1 sp q0 S1
    split at hs
    · rename_i n0' n1' e0 e1
      obtain ⟨g1, hs⟩ := am_ok_inj hs
      obtain ⟨rfl, rfl, rfl, rfl⟩ := am_nx_inj hs
      refine ⟨o1, am_okt (am_okt (am_okt (am_okt (am_okt o2)))), am_okh_A o3 (am_at_arr o3 hex e1 (by omega)).1 (fun j => ?_), Nat.le_refl _, Nat.le_refl _⟩
      unfold am_cp
      split
      · have := o3.2.2.1 q0 (sp.toNat + (j - dp.toNat))
        exact ⟨this.1, fun _ => this.2 (by rw [e0]; show (0 : Nat) ≠ 3; omega)⟩
      · exact o3.2.2.1 q1 j
    · cases hs
  · cases hs
end AMP
