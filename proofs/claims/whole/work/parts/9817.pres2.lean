/-! ===== a run keeps what can be; a run of the program is a run of the machine ===== -/
section AMQ
variable {cc : ByteArray} {x : am_H} {nx cn : Nat} {L L' : am_L} {S S' : List am_V} {h h' : am_H} {rt : Option FieldType} {ini : Bool} {bp : Nat → Nat} {K : Nat → List am_V → am_H → Option am_O} {j : Option Nat} {i : am_I}
theorem am_pres (hex : am_ext x) (hK : am_KO x K) (hg : am_gb cn cc rt ini bp nx i = true) (hs : am_step K i L S h = some (.inr (j, L', S', h'))) (o1 : am_okL L) (o2 : am_okS S) (o3 : am_okh x h) : am_okL L' ∧ am_okS S' ∧ am_okh x h' ∧ h.1.1 ≤ h'.1.1 ∧ h.1.2.1 ≤ h'.1.2.1 := by
  obtain ⟨op, pc, cst, ns⟩ := i
  match op, hg, hs with
  | 0, hg, hs => exact sp_0 hg hs o1 o2 o3
  | 1, hg, hs => exact sp_1 hg hs o1 o2 o3
  | 2, hg, hs => exact sp_2 hg hs o1 o2 o3
  | 3, hg, hs => exact sp_3 hg hs o1 o2 o3
  | 4, hg, hs => exact sp_4 hg hs o1 o2 o3
  | 5, hg, hs => exact sp_5 hg hs o1 o2 o3
  | 6, hg, hs => exact sp_6 hg hs o1 o2 o3
  | 7, hg, hs => exact sp_7 hg hs o1 o2 o3
  | 8, hg, hs => exact sp_8 hg hs o1 o2 o3
  | 9, hg, hs => exact sp_9 hg hs o1 o2 o3
  | 10, hg, hs => exact sp_10 hg hs o1 o2 o3
  | 11, hg, hs => exact sp_11 hg hs o1 o2 o3
  | 12, hg, hs => exact sp_12 hg hs o1 o2 o3
  | 13, hg, hs => simp only [am_step] at hs; cases hs
  | 14, hg, hs => exact sp_14 hg hs o1 o2 o3
  | 15, hg, hs => exact sp_15 hg hs o1 o2 o3
  | 16, hg, hs => exact sp_16 hg hs o1 o2 o3
  | 17, hg, hs => simp only [am_step] at hs; cases hs
  | 18, hg, hs => exact sp_18 hg hs o1 o2 o3
  | 19, hg, hs => exact sp_19 hg hs o1 o2 o3
  | 20, hg, hs => exact sp_20 hg hs o1 o2 o3
  | 21, hg, hs => exact sp_21 hg hs o1 o2 o3
  | 22, hg, hs => exact sp_22 hg hs o1 o2 o3
  | 23, hg, hs => exact sp_23 hg hs o1 o2 o3
  | 24, hg, hs => exact sp_24 hg hs o1 o2 o3
  | 25, hg, hs => exact sp_25 hg hs o1 o2 o3
  | 26, hg, hs => exact sp_26 hg hs o1 o2 o3
  | 27, hg, hs => exact sp_27 hg hs o1 o2 o3
  | 28, hg, hs => exact sp_28 hg hs o1 o2 o3
  | 29, hg, hs => exact sp_29 hg hs o1 o2 o3
  | 30, hg, hs => exact sp_30 hg hs o1 o2 o3
  | 31, hg, hs => exact sp_31 hg hs o1 o2 o3
  | 32, hg, hs => exact sp_32 hg hs o1 o2 o3
  | 33, hg, hs => exact sp_33 hg hs o1 o2 o3
  | 34, hg, hs => exact sp_34 hex hg hs o1 o2 o3
  | 35, hg, hs => exact sp_35 hex hg hs o1 o2 o3
  | 36, hg, hs => exact sp_36 hex hg hs o1 o2 o3
  | 37, hg, hs => exact sp_37 hg hs o1 o2 o3
  | 38, hg, hs => exact sp_38 hg hs o1 o2 o3
  | 39, hg, hs => exact sp_39 hg hs o1 o2 o3
  | 40, hg, hs => simp only [am_step] at hs; cases hs
  | 41, hg, hs => exact sp_41 hg hs o1 o2 o3
  | 42, hg, hs => exact sp_42 hex hg hs o1 o2 o3
  | 43, hg, hs => simp only [am_step] at hs; cases hs
  | 44, hg, hs => exact sp_44 hg hs o1 o2 o3
  | 45, hg, hs => exact sp_45 hK hg hs o1 o2 o3
  | 46, hg, hs => exact sp_46 hK hg hs o1 o2 o3
  | 47, hg, hs => exact sp_47 hg hs o1 o2 o3
  | 48, hg, hs => exact sp_48 hg hs o1 o2 o3
  | 49, hg, hs => simp only [am_step] at hs; cases hs
  | 50, hg, hs => exact sp_50 hg hs o1 o2 o3
  | 51, hg, hs => exact sp_51 hg hs o1 o2 o3
  | 52, hg, hs => exact sp_52 hex hg hs o1 o2 o3
  | 53, hg, hs =>
    simp only [am_step] at hs
    split at hs
    · exact absurd hs (fun z => am_rt_no z)
    · cases hs
  | 54, hg, hs =>
    simp only [am_step] at hs
    split at hs
    · exact absurd hs (fun z => am_rt_no z)
    · cases hs
  | 55, hg, hs =>
    simp only [am_step] at hs
    split at hs
    · exact absurd hs (fun z => am_rt_no z)
    · cases hs
  | 56, hg, hs =>
    simp only [am_step] at hs
    split at hs
    · exact absurd hs (fun z => am_rt_no z)
    · cases hs
  | 57, hg, hs =>
    simp only [am_step] at hs
    split at hs
    · exact absurd (am_ok_inj hs).2 (fun z => am_rt_no z)
    · cases hs
  | 58, hg, hs => exact sp_58 hg hs o1 o2 o3
  | n + 59, hg, hs => simp only [am_step] at hs; cases hs
theorem am_nxn {L : am_L} {S : List am_V} {h : am_H} {o : am_O} : ¬ am_nx L S h = some (.inl o) := fun z => by
  unfold am_nx at z
  cases z
theorem am_jpn {L : am_L} {S : List am_V} {h : am_H} {o : am_O} {b : Nat} : ¬ am_jp b L S h = some (.inl o) := fun z => by
  unfold am_jp at z
  cases z
theorem am_okn {b : Bool} {r : am_R} {o : am_O} (hr : ¬ r = some (.inl o)) : ¬ am_ok b r = some (.inl o) := fun z => hr (am_ok_inj z).2
theorem am_bkn {L : am_L} {S : List am_V} {q : Option am_O} {o : am_O} : ¬ am_back L S q = some (.inl o) := fun z => by
  unfold am_back at z
  split at z
  · exact am_nxn z
  · cases z
theorem am_non {o : am_O} : ¬ (none : am_R) = some (.inl o) := fun z => by cases z
theorem am_nr {op pc : Nat} {cst : Int} {ns : List Nat} {o : am_O} (hop : op < 53 ∨ op = 58) : ¬ am_step K (op, pc, cst, ns) L S h = some (.inl o) := by
  intro hs
  match op, hop, hs with
  | 0, _, hs =>
    simp only [am_step] at hs
    first
      | exact am_nxn hs
      | exact am_jpn hs
      | exact am_non hs
      | ((repeat' split at hs) <;> first | exact am_nxn hs | exact am_jpn hs | exact am_non hs | exact am_bkn hs | exact am_okn am_nxn hs | exact am_okn am_bkn hs | (unfold am_if at hs; exact am_jpn hs))
  | 1, _, hs =>
    simp only [am_step] at hs
    first
      | exact am_nxn hs
      | exact am_jpn hs
      | exact am_non hs
      | ((repeat' split at hs) <;> first | exact am_nxn hs | exact am_jpn hs | exact am_non hs | exact am_bkn hs | exact am_okn am_nxn hs | exact am_okn am_bkn hs | (unfold am_if at hs; exact am_jpn hs))
  | 2, _, hs =>
    simp only [am_step] at hs
    first
      | exact am_nxn hs
      | exact am_jpn hs
      | exact am_non hs
      | ((repeat' split at hs) <;> first | exact am_nxn hs | exact am_jpn hs | exact am_non hs | exact am_bkn hs | exact am_okn am_nxn hs | exact am_okn am_bkn hs | (unfold am_if at hs; exact am_jpn hs))
  | 3, _, hs =>
    simp only [am_step] at hs
    first
      | exact am_nxn hs
      | exact am_jpn hs
      | exact am_non hs
      | ((repeat' split at hs) <;> first | exact am_nxn hs | exact am_jpn hs | exact am_non hs | exact am_bkn hs | exact am_okn am_nxn hs | exact am_okn am_bkn hs | (unfold am_if at hs; exact am_jpn hs))
  | 4, _, hs =>
    simp only [am_step] at hs
    first
      | exact am_nxn hs
      | exact am_jpn hs
      | exact am_non hs
      | ((repeat' split at hs) <;> first | exact am_nxn hs | exact am_jpn hs | exact am_non hs | exact am_bkn hs | exact am_okn am_nxn hs | exact am_okn am_bkn hs | (unfold am_if at hs; exact am_jpn hs))
  | 5, _, hs =>
    simp only [am_step] at hs
    first
      | exact am_nxn hs
      | exact am_jpn hs
      | exact am_non hs
      | ((repeat' split at hs) <;> first | exact am_nxn hs | exact am_jpn hs | exact am_non hs | exact am_bkn hs | exact am_okn am_nxn hs | exact am_okn am_bkn hs | (unfold am_if at hs; exact am_jpn hs))
  | 6, _, hs =>
    simp only [am_step] at hs
    first
      | exact am_nxn hs
      | exact am_jpn hs
      | exact am_non hs
      | ((repeat' split at hs) <;> first | exact am_nxn hs | exact am_jpn hs | exact am_non hs | exact am_bkn hs | exact am_okn am_nxn hs | exact am_okn am_bkn hs | (unfold am_if at hs; exact am_jpn hs))
  | 7, _, hs =>
    simp only [am_step] at hs
    first
      | exact am_nxn hs
      | exact am_jpn hs
      | exact am_non hs
      | ((repeat' split at hs) <;> first | exact am_nxn hs | exact am_jpn hs | exact am_non hs | exact am_bkn hs | exact am_okn am_nxn hs | exact am_okn am_bkn hs | (unfold am_if at hs; exact am_jpn hs))
  | 8, _, hs =>
    simp only [am_step] at hs
    first
      | exact am_nxn hs
      | exact am_jpn hs
      | exact am_non hs
      | ((repeat' split at hs) <;> first | exact am_nxn hs | exact am_jpn hs | exact am_non hs | exact am_bkn hs | exact am_okn am_nxn hs | exact am_okn am_bkn hs | (unfold am_if at hs; exact am_jpn hs))
  | 9, _, hs =>
    simp only [am_step] at hs
    first
      | exact am_nxn hs
      | exact am_jpn hs
      | exact am_non hs
      | ((repeat' split at hs) <;> first | exact am_nxn hs | exact am_jpn hs | exact am_non hs | exact am_bkn hs | exact am_okn am_nxn hs | exact am_okn am_bkn hs | (unfold am_if at hs; exact am_jpn hs))
  | 10, _, hs =>
    simp only [am_step] at hs
    first
      | exact am_nxn hs
      | exact am_jpn hs
      | exact am_non hs
      | ((repeat' split at hs) <;> first | exact am_nxn hs | exact am_jpn hs | exact am_non hs | exact am_bkn hs | exact am_okn am_nxn hs | exact am_okn am_bkn hs | (unfold am_if at hs; exact am_jpn hs))
  | 11, _, hs =>
    simp only [am_step] at hs
    first
      | exact am_nxn hs
      | exact am_jpn hs
      | exact am_non hs
      | ((repeat' split at hs) <;> first | exact am_nxn hs | exact am_jpn hs | exact am_non hs | exact am_bkn hs | exact am_okn am_nxn hs | exact am_okn am_bkn hs | (unfold am_if at hs; exact am_jpn hs))
  | 12, _, hs =>
    simp only [am_step] at hs
    first
      | exact am_nxn hs
      | exact am_jpn hs
      | exact am_non hs
      | ((repeat' split at hs) <;> first | exact am_nxn hs | exact am_jpn hs | exact am_non hs | exact am_bkn hs | exact am_okn am_nxn hs | exact am_okn am_bkn hs | (unfold am_if at hs; exact am_jpn hs))
  | 13, _, hs =>
    simp only [am_step] at hs
    first
      | exact am_nxn hs
      | exact am_jpn hs
      | exact am_non hs
      | ((repeat' split at hs) <;> first | exact am_nxn hs | exact am_jpn hs | exact am_non hs | exact am_bkn hs | exact am_okn am_nxn hs | exact am_okn am_bkn hs | (unfold am_if at hs; exact am_jpn hs))
  | 14, _, hs =>
    simp only [am_step] at hs
    first
      | exact am_nxn hs
      | exact am_jpn hs
      | exact am_non hs
      | ((repeat' split at hs) <;> first | exact am_nxn hs | exact am_jpn hs | exact am_non hs | exact am_bkn hs | exact am_okn am_nxn hs | exact am_okn am_bkn hs | (unfold am_if at hs; exact am_jpn hs))
  | 15, _, hs =>
    simp only [am_step] at hs
    first
      | exact am_nxn hs
      | exact am_jpn hs
      | exact am_non hs
      | ((repeat' split at hs) <;> first | exact am_nxn hs | exact am_jpn hs | exact am_non hs | exact am_bkn hs | exact am_okn am_nxn hs | exact am_okn am_bkn hs | (unfold am_if at hs; exact am_jpn hs))
  | 16, _, hs =>
    simp only [am_step] at hs
    first
      | exact am_nxn hs
      | exact am_jpn hs
      | exact am_non hs
      | ((repeat' split at hs) <;> first | exact am_nxn hs | exact am_jpn hs | exact am_non hs | exact am_bkn hs | exact am_okn am_nxn hs | exact am_okn am_bkn hs | (unfold am_if at hs; exact am_jpn hs))
  | 17, _, hs =>
    simp only [am_step] at hs
    first
      | exact am_nxn hs
      | exact am_jpn hs
      | exact am_non hs
      | ((repeat' split at hs) <;> first | exact am_nxn hs | exact am_jpn hs | exact am_non hs | exact am_bkn hs | exact am_okn am_nxn hs | exact am_okn am_bkn hs | (unfold am_if at hs; exact am_jpn hs))
  | 18, _, hs =>
    simp only [am_step] at hs
    first
      | exact am_nxn hs
      | exact am_jpn hs
      | exact am_non hs
      | ((repeat' split at hs) <;> first | exact am_nxn hs | exact am_jpn hs | exact am_non hs | exact am_bkn hs | exact am_okn am_nxn hs | exact am_okn am_bkn hs | (unfold am_if at hs; exact am_jpn hs))
  | 19, _, hs =>
    simp only [am_step] at hs
    first
      | exact am_nxn hs
      | exact am_jpn hs
      | exact am_non hs
      | ((repeat' split at hs) <;> first | exact am_nxn hs | exact am_jpn hs | exact am_non hs | exact am_bkn hs | exact am_okn am_nxn hs | exact am_okn am_bkn hs | (unfold am_if at hs; exact am_jpn hs))
  | 20, _, hs =>
    simp only [am_step] at hs
    first
      | exact am_nxn hs
      | exact am_jpn hs
      | exact am_non hs
      | ((repeat' split at hs) <;> first | exact am_nxn hs | exact am_jpn hs | exact am_non hs | exact am_bkn hs | exact am_okn am_nxn hs | exact am_okn am_bkn hs | (unfold am_if at hs; exact am_jpn hs))
  | 21, _, hs =>
    simp only [am_step] at hs
    first
      | exact am_nxn hs
      | exact am_jpn hs
      | exact am_non hs
      | ((repeat' split at hs) <;> first | exact am_nxn hs | exact am_jpn hs | exact am_non hs | exact am_bkn hs | exact am_okn am_nxn hs | exact am_okn am_bkn hs | (unfold am_if at hs; exact am_jpn hs))
  | 22, _, hs =>
    simp only [am_step] at hs
    first
      | exact am_nxn hs
      | exact am_jpn hs
      | exact am_non hs
      | ((repeat' split at hs) <;> first | exact am_nxn hs | exact am_jpn hs | exact am_non hs | exact am_bkn hs | exact am_okn am_nxn hs | exact am_okn am_bkn hs | (unfold am_if at hs; exact am_jpn hs))
  | 23, _, hs =>
    simp only [am_step] at hs
    first
      | exact am_nxn hs
      | exact am_jpn hs
      | exact am_non hs
      | ((repeat' split at hs) <;> first | exact am_nxn hs | exact am_jpn hs | exact am_non hs | exact am_bkn hs | exact am_okn am_nxn hs | exact am_okn am_bkn hs | (unfold am_if at hs; exact am_jpn hs))
  | 24, _, hs =>
    simp only [am_step] at hs
    first
      | exact am_nxn hs
      | exact am_jpn hs
      | exact am_non hs
      | ((repeat' split at hs) <;> first | exact am_nxn hs | exact am_jpn hs | exact am_non hs | exact am_bkn hs | exact am_okn am_nxn hs | exact am_okn am_bkn hs | (unfold am_if at hs; exact am_jpn hs))
  | 25, _, hs =>
    simp only [am_step] at hs
    first
      | exact am_nxn hs
      | exact am_jpn hs
      | exact am_non hs
      | ((repeat' split at hs) <;> first | exact am_nxn hs | exact am_jpn hs | exact am_non hs | exact am_bkn hs | exact am_okn am_nxn hs | exact am_okn am_bkn hs | (unfold am_if at hs; exact am_jpn hs))
  | 26, _, hs =>
    simp only [am_step] at hs
    first
      | exact am_nxn hs
      | exact am_jpn hs
      | exact am_non hs
      | ((repeat' split at hs) <;> first | exact am_nxn hs | exact am_jpn hs | exact am_non hs | exact am_bkn hs | exact am_okn am_nxn hs | exact am_okn am_bkn hs | (unfold am_if at hs; exact am_jpn hs))
  | 27, _, hs =>
    simp only [am_step] at hs
    first
      | exact am_nxn hs
      | exact am_jpn hs
      | exact am_non hs
      | ((repeat' split at hs) <;> first | exact am_nxn hs | exact am_jpn hs | exact am_non hs | exact am_bkn hs | exact am_okn am_nxn hs | exact am_okn am_bkn hs | (unfold am_if at hs; exact am_jpn hs))
  | 28, _, hs =>
    simp only [am_step] at hs
    first
      | exact am_nxn hs
      | exact am_jpn hs
      | exact am_non hs
      | ((repeat' split at hs) <;> first | exact am_nxn hs | exact am_jpn hs | exact am_non hs | exact am_bkn hs | exact am_okn am_nxn hs | exact am_okn am_bkn hs | (unfold am_if at hs; exact am_jpn hs))
  | 29, _, hs =>
    simp only [am_step] at hs
    first
      | exact am_nxn hs
      | exact am_jpn hs
      | exact am_non hs
      | ((repeat' split at hs) <;> first | exact am_nxn hs | exact am_jpn hs | exact am_non hs | exact am_bkn hs | exact am_okn am_nxn hs | exact am_okn am_bkn hs | (unfold am_if at hs; exact am_jpn hs))
  | 30, _, hs =>
    simp only [am_step] at hs
    first
      | exact am_nxn hs
      | exact am_jpn hs
      | exact am_non hs
      | ((repeat' split at hs) <;> first | exact am_nxn hs | exact am_jpn hs | exact am_non hs | exact am_bkn hs | exact am_okn am_nxn hs | exact am_okn am_bkn hs | (unfold am_if at hs; exact am_jpn hs))
  | 31, _, hs =>
    simp only [am_step] at hs
    first
      | exact am_nxn hs
      | exact am_jpn hs
      | exact am_non hs
      | ((repeat' split at hs) <;> first | exact am_nxn hs | exact am_jpn hs | exact am_non hs | exact am_bkn hs | exact am_okn am_nxn hs | exact am_okn am_bkn hs | (unfold am_if at hs; exact am_jpn hs))
  | 32, _, hs =>
    simp only [am_step] at hs
    first
      | exact am_nxn hs
      | exact am_jpn hs
      | exact am_non hs
      | ((repeat' split at hs) <;> first | exact am_nxn hs | exact am_jpn hs | exact am_non hs | exact am_bkn hs | exact am_okn am_nxn hs | exact am_okn am_bkn hs | (unfold am_if at hs; exact am_jpn hs))
  | 33, _, hs =>
    simp only [am_step] at hs
    first
      | exact am_nxn hs
      | exact am_jpn hs
      | exact am_non hs
      | ((repeat' split at hs) <;> first | exact am_nxn hs | exact am_jpn hs | exact am_non hs | exact am_bkn hs | exact am_okn am_nxn hs | exact am_okn am_bkn hs | (unfold am_if at hs; exact am_jpn hs))
  | 34, _, hs =>
    simp only [am_step] at hs
    first
      | exact am_nxn hs
      | exact am_jpn hs
      | exact am_non hs
      | ((repeat' split at hs) <;> first | exact am_nxn hs | exact am_jpn hs | exact am_non hs | exact am_bkn hs | exact am_okn am_nxn hs | exact am_okn am_bkn hs | (unfold am_if at hs; exact am_jpn hs))
  | 35, _, hs =>
    simp only [am_step] at hs
    first
      | exact am_nxn hs
      | exact am_jpn hs
      | exact am_non hs
      | ((repeat' split at hs) <;> first | exact am_nxn hs | exact am_jpn hs | exact am_non hs | exact am_bkn hs | exact am_okn am_nxn hs | exact am_okn am_bkn hs | (unfold am_if at hs; exact am_jpn hs))
  | 36, _, hs =>
    simp only [am_step] at hs
    first
      | exact am_nxn hs
      | exact am_jpn hs
      | exact am_non hs
      | ((repeat' split at hs) <;> first | exact am_nxn hs | exact am_jpn hs | exact am_non hs | exact am_bkn hs | exact am_okn am_nxn hs | exact am_okn am_bkn hs | (unfold am_if at hs; exact am_jpn hs))
  | 37, _, hs =>
    simp only [am_step] at hs
    first
      | exact am_nxn hs
      | exact am_jpn hs
      | exact am_non hs
      | ((repeat' split at hs) <;> first | exact am_nxn hs | exact am_jpn hs | exact am_non hs | exact am_bkn hs | exact am_okn am_nxn hs | exact am_okn am_bkn hs | (unfold am_if at hs; exact am_jpn hs))
  | 38, _, hs =>
    simp only [am_step] at hs
    first
      | exact am_nxn hs
      | exact am_jpn hs
      | exact am_non hs
      | ((repeat' split at hs) <;> first | exact am_nxn hs | exact am_jpn hs | exact am_non hs | exact am_bkn hs | exact am_okn am_nxn hs | exact am_okn am_bkn hs | (unfold am_if at hs; exact am_jpn hs))
  | 39, _, hs =>
    simp only [am_step] at hs
    first
      | exact am_nxn hs
      | exact am_jpn hs
      | exact am_non hs
      | ((repeat' split at hs) <;> first | exact am_nxn hs | exact am_jpn hs | exact am_non hs | exact am_bkn hs | exact am_okn am_nxn hs | exact am_okn am_bkn hs | (unfold am_if at hs; exact am_jpn hs))
  | 40, _, hs =>
    simp only [am_step] at hs
    first
      | exact am_nxn hs
      | exact am_jpn hs
      | exact am_non hs
      | ((repeat' split at hs) <;> first | exact am_nxn hs | exact am_jpn hs | exact am_non hs | exact am_bkn hs | exact am_okn am_nxn hs | exact am_okn am_bkn hs | (unfold am_if at hs; exact am_jpn hs))
  | 41, _, hs =>
    simp only [am_step] at hs
    first
      | exact am_nxn hs
      | exact am_jpn hs
      | exact am_non hs
      | ((repeat' split at hs) <;> first | exact am_nxn hs | exact am_jpn hs | exact am_non hs | exact am_bkn hs | exact am_okn am_nxn hs | exact am_okn am_bkn hs | (unfold am_if at hs; exact am_jpn hs))
  | 42, _, hs =>
    simp only [am_step] at hs
    first
      | exact am_nxn hs
      | exact am_jpn hs
      | exact am_non hs
      | ((repeat' split at hs) <;> first | exact am_nxn hs | exact am_jpn hs | exact am_non hs | exact am_bkn hs | exact am_okn am_nxn hs | exact am_okn am_bkn hs | (unfold am_if at hs; exact am_jpn hs))
  | 43, _, hs =>
    simp only [am_step] at hs
    first
      | exact am_nxn hs
      | exact am_jpn hs
      | exact am_non hs
      | ((repeat' split at hs) <;> first | exact am_nxn hs | exact am_jpn hs | exact am_non hs | exact am_bkn hs | exact am_okn am_nxn hs | exact am_okn am_bkn hs | (unfold am_if at hs; exact am_jpn hs))
  | 44, _, hs =>
    simp only [am_step] at hs
    first
      | exact am_nxn hs
      | exact am_jpn hs
      | exact am_non hs
      | ((repeat' split at hs) <;> first | exact am_nxn hs | exact am_jpn hs | exact am_non hs | exact am_bkn hs | exact am_okn am_nxn hs | exact am_okn am_bkn hs | (unfold am_if at hs; exact am_jpn hs))
  | 45, _, hs =>
    simp only [am_step] at hs
    first
      | exact am_nxn hs
      | exact am_jpn hs
      | exact am_non hs
      | ((repeat' split at hs) <;> first | exact am_nxn hs | exact am_jpn hs | exact am_non hs | exact am_bkn hs | exact am_okn am_nxn hs | exact am_okn am_bkn hs | (unfold am_if at hs; exact am_jpn hs))
  | 46, _, hs =>
    simp only [am_step] at hs
    first
      | exact am_nxn hs
      | exact am_jpn hs
      | exact am_non hs
      | ((repeat' split at hs) <;> first | exact am_nxn hs | exact am_jpn hs | exact am_non hs | exact am_bkn hs | exact am_okn am_nxn hs | exact am_okn am_bkn hs | (unfold am_if at hs; exact am_jpn hs))
  | 47, _, hs =>
    simp only [am_step] at hs
    first
      | exact am_nxn hs
      | exact am_jpn hs
      | exact am_non hs
      | ((repeat' split at hs) <;> first | exact am_nxn hs | exact am_jpn hs | exact am_non hs | exact am_bkn hs | exact am_okn am_nxn hs | exact am_okn am_bkn hs | (unfold am_if at hs; exact am_jpn hs))
  | 48, _, hs =>
    simp only [am_step] at hs
    first
      | exact am_nxn hs
      | exact am_jpn hs
      | exact am_non hs
      | ((repeat' split at hs) <;> first | exact am_nxn hs | exact am_jpn hs | exact am_non hs | exact am_bkn hs | exact am_okn am_nxn hs | exact am_okn am_bkn hs | (unfold am_if at hs; exact am_jpn hs))
  | 49, _, hs =>
    simp only [am_step] at hs
    first
      | exact am_nxn hs
      | exact am_jpn hs
      | exact am_non hs
      | ((repeat' split at hs) <;> first | exact am_nxn hs | exact am_jpn hs | exact am_non hs | exact am_bkn hs | exact am_okn am_nxn hs | exact am_okn am_bkn hs | (unfold am_if at hs; exact am_jpn hs))
  | 50, _, hs =>
    simp only [am_step] at hs
    first
      | exact am_nxn hs
      | exact am_jpn hs
      | exact am_non hs
      | ((repeat' split at hs) <;> first | exact am_nxn hs | exact am_jpn hs | exact am_non hs | exact am_bkn hs | exact am_okn am_nxn hs | exact am_okn am_bkn hs | (unfold am_if at hs; exact am_jpn hs))
  | 51, _, hs =>
    simp only [am_step] at hs
    first
      | exact am_nxn hs
      | exact am_jpn hs
      | exact am_non hs
      | ((repeat' split at hs) <;> first | exact am_nxn hs | exact am_jpn hs | exact am_non hs | exact am_bkn hs | exact am_okn am_nxn hs | exact am_okn am_bkn hs | (unfold am_if at hs; exact am_jpn hs))
  | 52, _, hs =>
    simp only [am_step] at hs
    first
      | exact am_nxn hs
      | exact am_jpn hs
      | exact am_non hs
      | ((repeat' split at hs) <;> first | exact am_nxn hs | exact am_jpn hs | exact am_non hs | exact am_bkn hs | exact am_okn am_nxn hs | exact am_okn am_bkn hs | (unfold am_if at hs; exact am_jpn hs))
  | 58, _, hs =>
    simp only [am_step] at hs
    first
      | exact am_nxn hs
      | exact am_jpn hs
      | exact am_non hs
      | ((repeat' split at hs) <;> first | exact am_nxn hs | exact am_jpn hs | exact am_non hs | exact am_bkn hs | exact am_okn am_nxn hs | exact am_okn am_bkn hs | (unfold am_if at hs; exact am_jpn hs))
  | 53, hop, _ => omega
  | 54, hop, _ => omega
  | 55, hop, _ => omega
  | 56, hop, _ => omega
  | 57, hop, _ => omega
  | n + 59, hop, _ => omega
/-- a step that ends the method: which ones there are -/
theorem am_ret (hg : am_gb cn cc rt ini bp nx i = true) {o : am_O} (hs : am_step K i L S h = some (.inl o)) : o.2 = h ∧ ((rt = some .int ∧ (∃ v, S = [.inl v] ∧ o.1 = some (.inl v)) ∧ decode cc i.2.1 = .ok (.ireturn, 1)) ∨ (rt = some .long ∧ (∃ v, S = [.inr (.inl v)] ∧ o.1 = some (.inr (.inl v))) ∧ decode cc i.2.1 = .ok (.lreturn, 1)) ∨ ((∃ n, rt = some (.object n)) ∧ (∃ v, S = [.inr (.inr (some v))] ∧ o.1 = some (.inr (.inr (some v)))) ∧ decode cc i.2.1 = .ok (.areturn, 1)) ∨ (rt = none ∧ (S = [] ∧ o.1 = none) ∧ decode cc i.2.1 = .ok (.return_, 1)) ∨ (rt = some .boolean ∧ (∃ v, (v = 0 ∨ v = 1) ∧ S = [.inl v] ∧ o.1 = some (.inl v)) ∧ decode cc i.2.1 = .ok (.ireturn, 1))) := by
  obtain ⟨op, pc, cst, ns⟩ := i
  match op, hg, hs with
  | 0, hg, hs => exact absurd hs (am_nr (by decide))
  | 1, hg, hs => exact absurd hs (am_nr (by decide))
  | 2, hg, hs => exact absurd hs (am_nr (by decide))
  | 3, hg, hs => exact absurd hs (am_nr (by decide))
  | 4, hg, hs => exact absurd hs (am_nr (by decide))
  | 5, hg, hs => exact absurd hs (am_nr (by decide))
  | 6, hg, hs => exact absurd hs (am_nr (by decide))
  | 7, hg, hs => exact absurd hs (am_nr (by decide))
  | 8, hg, hs => exact absurd hs (am_nr (by decide))
  | 9, hg, hs => exact absurd hs (am_nr (by decide))
  | 10, hg, hs => exact absurd hs (am_nr (by decide))
  | 11, hg, hs => exact absurd hs (am_nr (by decide))
  | 12, hg, hs => exact absurd hs (am_nr (by decide))
  | 13, hg, hs => exact absurd hs (am_nr (by decide))
  | 14, hg, hs => exact absurd hs (am_nr (by decide))
  | 15, hg, hs => exact absurd hs (am_nr (by decide))
  | 16, hg, hs => exact absurd hs (am_nr (by decide))
  | 17, hg, hs => exact absurd hs (am_nr (by decide))
  | 18, hg, hs => exact absurd hs (am_nr (by decide))
  | 19, hg, hs => exact absurd hs (am_nr (by decide))
  | 20, hg, hs => exact absurd hs (am_nr (by decide))
  | 21, hg, hs => exact absurd hs (am_nr (by decide))
  | 22, hg, hs => exact absurd hs (am_nr (by decide))
  | 23, hg, hs => exact absurd hs (am_nr (by decide))
  | 24, hg, hs => exact absurd hs (am_nr (by decide))
  | 25, hg, hs => exact absurd hs (am_nr (by decide))
  | 26, hg, hs => exact absurd hs (am_nr (by decide))
  | 27, hg, hs => exact absurd hs (am_nr (by decide))
  | 28, hg, hs => exact absurd hs (am_nr (by decide))
  | 29, hg, hs => exact absurd hs (am_nr (by decide))
  | 30, hg, hs => exact absurd hs (am_nr (by decide))
  | 31, hg, hs => exact absurd hs (am_nr (by decide))
  | 32, hg, hs => exact absurd hs (am_nr (by decide))
  | 33, hg, hs => exact absurd hs (am_nr (by decide))
  | 34, hg, hs => exact absurd hs (am_nr (by decide))
  | 35, hg, hs => exact absurd hs (am_nr (by decide))
  | 36, hg, hs => exact absurd hs (am_nr (by decide))
  | 37, hg, hs => exact absurd hs (am_nr (by decide))
  | 38, hg, hs => exact absurd hs (am_nr (by decide))
  | 39, hg, hs => exact absurd hs (am_nr (by decide))
  | 40, hg, hs => exact absurd hs (am_nr (by decide))
  | 41, hg, hs => exact absurd hs (am_nr (by decide))
  | 42, hg, hs => exact absurd hs (am_nr (by decide))
  | 43, hg, hs => exact absurd hs (am_nr (by decide))
  | 44, hg, hs => exact absurd hs (am_nr (by decide))
  | 45, hg, hs => exact absurd hs (am_nr (by decide))
  | 46, hg, hs => exact absurd hs (am_nr (by decide))
  | 47, hg, hs => exact absurd hs (am_nr (by decide))
  | 48, hg, hs => exact absurd hs (am_nr (by decide))
  | 49, hg, hs => exact absurd hs (am_nr (by decide))
  | 50, hg, hs => exact absurd hs (am_nr (by decide))
  | 51, hg, hs => exact absurd hs (am_nr (by decide))
  | 52, hg, hs => exact absurd hs (am_nr (by decide))
  | 53, hg, hs =>
    simp only [am_step] at hs
    simp only [am_gb, Bool.and_eq_true] at hg
    split at hs
    · unfold am_rt at hs
      cases hs
      exact ⟨rfl, Or.inl ⟨of_decide_eq_true hg.1, ⟨_, rfl, rfl⟩, of_decide_eq_true hg.2⟩⟩
    · cases hs
  | 54, hg, hs =>
    simp only [am_step] at hs
    simp only [am_gb, Bool.and_eq_true] at hg
    split at hs
    · unfold am_rt at hs
      cases hs
      exact ⟨rfl, Or.inr (Or.inl ⟨of_decide_eq_true hg.1, ⟨_, rfl, rfl⟩, of_decide_eq_true hg.2⟩)⟩
    · cases hs
  | 55, hg, hs =>
    simp only [am_step] at hs
    simp only [am_gb, Bool.and_eq_true] at hg
    split at hs
    · unfold am_rt at hs
      cases hs
      have h1 : ∃ n, rt = some (.object n) := by
        have := hg.1
        split at this
        · exact ⟨_, rfl⟩
        · cases this
      exact ⟨rfl, Or.inr (Or.inr (Or.inl ⟨h1, ⟨_, rfl, rfl⟩, of_decide_eq_true hg.2⟩))⟩
    · cases hs
  | 56, hg, hs =>
    simp only [am_step] at hs
    simp only [am_gb, Bool.and_eq_true] at hg
    split at hs
    · unfold am_rt at hs
      cases hs
      exact ⟨rfl, Or.inr (Or.inr (Or.inr (Or.inl ⟨of_decide_eq_true hg.1, ⟨rfl, rfl⟩, of_decide_eq_true hg.2⟩)))⟩
    · cases hs
  | 57, hg, hs =>
    simp only [am_step] at hs
    simp only [am_gb, Bool.and_eq_true] at hg
    split at hs
    · obtain ⟨g1, hs⟩ := am_ok_inj hs
      unfold am_rt at hs
      cases hs
      exact ⟨rfl, Or.inr (Or.inr (Or.inr (Or.inr ⟨of_decide_eq_true hg.1, ⟨_, of_decide_eq_true g1, rfl, rfl⟩, of_decide_eq_true hg.2⟩)))⟩
    · cases hs
  | 58, hg, hs => exact absurd hs (am_nr (by decide))
  | n + 59, hg, hs => simp only [am_step] at hs; cases hs
end AMQ
