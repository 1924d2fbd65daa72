section AMX
variable {p : Program} {l : Launch} {e : Env} {R : Room} {s : State} {m : MethodId} {args : Array Value} {below : List Frame} {meth : Method} {c : Code} {Q : State → Prop} {D : va_G} {base : Nat} {xa : Nat → Nat} {cA : Nat → ClassId} {x : am_H} {nL n0 s0 : Nat} {cc : ByteArray}
variable {pc nx cn d : Nat} {L L' : am_L} {S S' : List am_V} {h h' : am_H} {rt : Option FieldType} {ini : Bool} {bp : Nat → Nat} {cst : Int} {ns : List Nat} {K : Nat → List am_V → am_H → Option am_O} {j : Option Nat}
def am_nj (nx : Nat) (bp : Nat → Nat) (j : Option Nat) : Nat := match j with
  | none => nx
  | some b => bp b
theorem am_nx_inj {L L' : am_L} {S S' : List am_V} {h h' : am_H} {j : Option Nat} (hs : am_nx L S h = some (.inr (j, L', S', h'))) : none = j ∧ L = L' ∧ S = S' ∧ h = h' := by
  unfold am_nx at hs
  injection hs with hs
  injection hs with hs
  injection hs with h1 hs
  injection hs with h2 hs
  injection hs with h3 h4
  exact ⟨h1, h2, h3, h4⟩
theorem am_jp_inj {L L' : am_L} {S S' : List am_V} {h h' : am_H} {j : Option Nat} {b : Nat} (hs : am_jp b L S h = some (.inr (j, L', S', h'))) : some b = j ∧ L = L' ∧ S = S' ∧ h = h' := by
  unfold am_jp at hs
  injection hs with hs
  injection hs with hs
  injection hs with h1 hs
  injection hs with h2 hs
  injection hs with h3 h4
  exact ⟨h1, h2, h3, h4⟩
theorem am_ok_inj {b : Bool} {r : am_R} {z : am_O ⊕ (Option Nat × am_L × List am_V × am_H)} (hs : am_ok b r = some z) : b = true ∧ r = some z := by
  unfold am_ok at hs
  split at hs
  · rename_i g
    exact ⟨g, hs⟩
  · cases hs
theorem am_back_inj {L L' : am_L} {S S' : List am_V} {h' : am_H} {o : Option am_O} {j : Option Nat} (hs : am_back L S o = some (.inr (j, L', S', h'))) : ∃ v h1, o = some (v, h1) ∧ none = j ∧ L = L' ∧ v.toList ++ S = S' ∧ h1 = h' := by
  unfold am_back at hs
  split at hs
  · rename_i v h1
    exact ⟨v, h1, rfl, am_nx_inj hs⟩
  · cases hs
theorem am_rt_no {v : Option am_V} {h : am_H} {z : Option Nat × am_L × List am_V × am_H} (hs : am_rt v h = some (.inr z)) : False := by
  unfold am_rt at hs
  injection hs with hs
  cases hs
theorem sx_0 (cx : am_cx p s m args c D base xa cA x cc nL n0 (am_ON cn)) (hg : am_gb cn cc rt ini bp nx (0, pc, cst, ns) = true) (hs : am_step K (0, pc, cst, ns) L S h = some (.inr (j, L', S', h'))) (hk : am_at p l e R s m args below meth c Q D base xa cA x nL n0 s0 (am_nj nx bp j) L' S' h') : am_at p l e R s m args below meth c Q D base xa cA x nL n0 s0 pc L S h := by
  simp only [am_gb] at hg
  simp only [am_step] at hs
  rw [Bool.and_eq_true, Bool.or_eq_true, Bool.or_eq_true, Bool.or_eq_true] at hg
  obtain ⟨h1, h2⟩ := hg
  obtain ⟨rfl, rfl, rfl, rfl⟩ := am_nx_inj hs
  refine so_0 (ns := ns) cx (show -2147483648 ≤ cst ∧ cst ≤ 2147483647 from of_decide_eq_true h1) ?_ hk
  rcases h2 with ((h2 | h2) | h2) | h2
  · exact Or.inl (am_dq_of h2)
  · rw [Bool.and_eq_true] at h2
    exact Or.inr (Or.inl ⟨am_dq_of h2.1, of_decide_eq_true h2.2⟩)
  · rw [Bool.and_eq_true] at h2
    exact Or.inr (Or.inr (Or.inl ⟨am_dq_of h2.1, of_decide_eq_true h2.2⟩))
  · split at h2
    · rename_i k
      rw [Bool.and_eq_true, Bool.or_eq_true] at h2
      exact Or.inr (Or.inr (Or.inr ⟨k, rfl, am_KI_ok _ (of_decide_eq_true h2.1), h2.2.imp am_dq_of am_dq_of⟩))
    · cases h2
theorem sx_1 (cx : am_cx p s m args c D base xa cA x cc nL n0 (am_ON cn)) (hg : am_gb cn cc rt ini bp nx (1, pc, cst, ns) = true) (hs : am_step K (1, pc, cst, ns) L S h = some (.inr (j, L', S', h'))) (hk : am_at p l e R s m args below meth c Q D base xa cA x nL n0 s0 (am_nj nx bp j) L' S' h') : am_at p l e R s m args below meth c Q D base xa cA x nL n0 s0 pc L S h := by
  simp only [am_gb] at hg
  simp only [am_step] at hs
  rw [Bool.and_eq_true, Bool.or_eq_true, Bool.or_eq_true] at hg
  obtain ⟨h1, h2⟩ := hg
  obtain ⟨rfl, rfl, rfl, rfl⟩ := am_nx_inj hs
  refine so_1 (ns := ns) cx (show -9223372036854775808 ≤ cst ∧ cst ≤ 9223372036854775807 from of_decide_eq_true h1) ?_ hk
  rcases h2 with (h2 | h2) | h2
  · rw [Bool.and_eq_true] at h2
    rw [of_decide_eq_true h2.1]
    exact Or.inl ⟨0, rfl, am_dq_of h2.2⟩
  · rw [Bool.and_eq_true] at h2
    rw [of_decide_eq_true h2.1]
    exact Or.inl ⟨1, rfl, am_dq_of h2.2⟩
  · split at h2
    · rename_i k
      rw [Bool.and_eq_true] at h2
      exact Or.inr ⟨k, rfl, am_KL_ok _ (of_decide_eq_true h2.1), am_dq_of h2.2⟩
    · cases h2
theorem sx_2 (cx : am_cx p s m args c D base xa cA x cc nL n0 (am_ON cn)) (hg : am_gb cn cc rt ini bp nx (2, pc, cst, ns) = true) (hs : am_step K (2, pc, cst, ns) L S h = some (.inr (j, L', S', h'))) (hk : am_at p l e R s m args below meth c Q D base xa cA x nL n0 s0 (am_nj nx bp j) L' S' h') : am_at p l e R s m args below meth c Q D base xa cA x nL n0 s0 pc L S h := by
  simp only [am_gb] at hg
  simp only [am_step] at hs
  obtain ⟨rfl, rfl, rfl, rfl⟩ := am_nx_inj hs
  exact so_2 cx (am_dq_of hg) hk
theorem sx_3 (cx : am_cx p s m args c D base xa cA x cc nL n0 (am_ON cn)) (hX : am_X base xa x s) (hg : am_gb cn cc rt ini bp nx (3, pc, cst, ns) = true) (hs : am_step K (3, pc, cst, ns) L S h = some (.inr (j, L', S', h'))) (hk : am_at p l e R s m args below meth c Q D base xa cA x nL n0 s0 (am_nj nx bp j) L' S' h') : am_at p l e R s m args below meth c Q D base xa cA x nL n0 s0 pc L S h := by
  simp only [am_gb] at hg
  simp only [am_step] at hs
  split at hs
  · rename_i q k
    obtain ⟨rfl, rfl, rfl, rfl⟩ := am_nx_inj hs
    simp only [Bool.or_eq_true, Bool.and_eq_true] at hg
    rcases hg with ⟨⟨g1, g2⟩, g3⟩ | ⟨⟨g1, g2⟩, g3⟩
    · obtain ⟨r, hr, e1, e2, e3⟩ := am_SN_ok _ (of_decide_eq_true g1)
      have := hX.2.2.2.1 r hr
      rw [e1, e2, e3] at this
      exact so_3s cx (of_decide_eq_true g2) this (am_dq_of g3) hk
    · have hq : q = 1 ∨ q = 2 := of_decide_eq_true g1
      have hZ : va_Z "CloudCalls" (am_SNm q) "[I" (.ref (xa q)) (fun q => base ≤ q) s s.heap := by
        rcases hq with rfl | rfl
        · exact hX.2.1
        · exact hX.2.2.1
      refine so_3g cx (by omega) hZ (am_dq_of g2) ?_ hk
      rcases g3 with g3 | g3
      · exact Or.inl (am_GS_ok _ (of_decide_eq_true g3))
      · exact Or.inr (va_Nw.use rfl (hX.2.2.2.2.2.1 _ (am_GN_ok _ (of_decide_eq_true g3))))
  · cases hs
theorem sx_4 (cx : am_cx p s m args c D base xa cA x cc nL n0 (am_ON cn)) (hg : am_gb cn cc rt ini bp nx (4, pc, cst, ns) = true) (hs : am_step K (4, pc, cst, ns) L S h = some (.inr (j, L', S', h'))) (hk : am_at p l e R s m args below meth c Q D base xa cA x nL n0 s0 (am_nj nx bp j) L' S' h') : am_at p l e R s m args below meth c Q D base xa cA x nL n0 s0 pc L S h := by
  simp only [am_gb] at hg
  simp only [am_step] at hs
  split at hs
  · rename_i k
    split at hs
    · rename_i v hv
      obtain ⟨rfl, rfl, rfl, rfl⟩ := am_nx_inj hs
      exact so_4 cx (am_ld2_of hg) hv hk
    · cases hs
  · cases hs
theorem sx_5 (cx : am_cx p s m args c D base xa cA x cc nL n0 (am_ON cn)) (hg : am_gb cn cc rt ini bp nx (5, pc, cst, ns) = true) (hs : am_step K (5, pc, cst, ns) L S h = some (.inr (j, L', S', h'))) (hk : am_at p l e R s m args below meth c Q D base xa cA x nL n0 s0 (am_nj nx bp j) L' S' h') : am_at p l e R s m args below meth c Q D base xa cA x nL n0 s0 pc L S h := by
  simp only [am_gb] at hg
  simp only [am_step] at hs
  split at hs
  · rename_i k
    split at hs
    · rename_i v hv
      obtain ⟨rfl, rfl, rfl, rfl⟩ := am_nx_inj hs
      exact so_5 cx (am_ld2_of hg) hv hk
    · cases hs
  · cases hs
theorem sx_6 (cx : am_cx p s m args c D base xa cA x cc nL n0 (am_ON cn)) (hg : am_gb cn cc rt ini bp nx (6, pc, cst, ns) = true) (hs : am_step K (6, pc, cst, ns) L S h = some (.inr (j, L', S', h'))) (hk : am_at p l e R s m args below meth c Q D base xa cA x nL n0 s0 (am_nj nx bp j) L' S' h') : am_at p l e R s m args below meth c Q D base xa cA x nL n0 s0 pc L S h := by
  simp only [am_gb] at hg
  simp only [am_step] at hs
  split at hs
  · rename_i k
    split at hs
    · rename_i v hv
      obtain ⟨rfl, rfl, rfl, rfl⟩ := am_nx_inj hs
      exact so_6 cx (am_ld2_of hg) hv hk
    · cases hs
  · cases hs
theorem sx_7 (cx : am_cx p s m args c D base xa cA x cc nL n0 (am_ON cn)) (hg : am_gb cn cc rt ini bp nx (7, pc, cst, ns) = true) (hs : am_step K (7, pc, cst, ns) L S h = some (.inr (j, L', S', h'))) (hk : am_at p l e R s m args below meth c Q D base xa cA x nL n0 s0 (am_nj nx bp j) L' S' h') : am_at p l e R s m args below meth c Q D base xa cA x nL n0 s0 pc L S h := by
  simp only [am_gb] at hg
  simp only [am_step] at hs
  split at hs
  · rename_i k v S1
    obtain ⟨g1, hs⟩ := am_ok_inj hs
    obtain ⟨rfl, rfl, rfl, rfl⟩ := am_nx_inj hs
    exact so_7 cx (am_ld2_of hg) (of_decide_eq_true g1) hk
  · cases hs
theorem sx_8 (cx : am_cx p s m args c D base xa cA x cc nL n0 (am_ON cn)) (hg : am_gb cn cc rt ini bp nx (8, pc, cst, ns) = true) (hs : am_step K (8, pc, cst, ns) L S h = some (.inr (j, L', S', h'))) (hk : am_at p l e R s m args below meth c Q D base xa cA x nL n0 s0 (am_nj nx bp j) L' S' h') : am_at p l e R s m args below meth c Q D base xa cA x nL n0 s0 pc L S h := by
  simp only [am_gb] at hg
  simp only [am_step] at hs
  split at hs
  · rename_i k v S1
    obtain ⟨g1, hs⟩ := am_ok_inj hs
    obtain ⟨rfl, rfl, rfl, rfl⟩ := am_nx_inj hs
    exact so_8 cx (am_ld2_of hg) (of_decide_eq_true g1) hk
  · cases hs
theorem sx_9 (cx : am_cx p s m args c D base xa cA x cc nL n0 (am_ON cn)) (hg : am_gb cn cc rt ini bp nx (9, pc, cst, ns) = true) (hs : am_step K (9, pc, cst, ns) L S h = some (.inr (j, L', S', h'))) (hk : am_at p l e R s m args below meth c Q D base xa cA x nL n0 s0 (am_nj nx bp j) L' S' h') : am_at p l e R s m args below meth c Q D base xa cA x nL n0 s0 pc L S h := by
  simp only [am_gb] at hg
  simp only [am_step] at hs
  split at hs
  · rename_i k v S1
    obtain ⟨g1, hs⟩ := am_ok_inj hs
    obtain ⟨rfl, rfl, rfl, rfl⟩ := am_nx_inj hs
    exact so_9 cx (am_ld2_of hg) (of_decide_eq_true g1) hk
  · cases hs
theorem sx_10 (cx : am_cx p s m args c D base xa cA x cc nL n0 (am_ON cn)) (hg : am_gb cn cc rt ini bp nx (10, pc, cst, ns) = true) (hs : am_step K (10, pc, cst, ns) L S h = some (.inr (j, L', S', h'))) (hk : am_at p l e R s m args below meth c Q D base xa cA x nL n0 s0 (am_nj nx bp j) L' S' h') : am_at p l e R s m args below meth c Q D base xa cA x nL n0 s0 pc L S h := by
  simp only [am_gb] at hg
  simp only [am_step] at hs
  split at hs
  · rename_i k
    split at hs
    · rename_i v hv
      obtain ⟨rfl, rfl, rfl, rfl⟩ := am_nx_inj hs
      exact so_10 cx (am_dq_of hg) hv hk
    · cases hs
  · cases hs
theorem sx_11 (cx : am_cx p s m args c D base xa cA x cc nL n0 (am_ON cn)) (hg : am_gb cn cc rt ini bp nx (11, pc, cst, ns) = true) (hs : am_step K (11, pc, cst, ns) L S h = some (.inr (j, L', S', h'))) (hk : am_at p l e R s m args below meth c Q D base xa cA x nL n0 s0 (am_nj nx bp j) L' S' h') : am_at p l e R s m args below meth c Q D base xa cA x nL n0 s0 pc L S h := by
  simp only [am_gb] at hg
  simp only [am_step] at hs
  split at hs
  · rename_i o b a S1
    obtain ⟨rfl, rfl, rfl, rfl⟩ := am_nx_inj hs
    rw [Bool.and_eq_true] at hg
    exact so_11 cx (of_decide_eq_true hg.1) (am_dq_of hg.2) hk
  · cases hs
theorem sx_15 (cx : am_cx p s m args c D base xa cA x cc nL n0 (am_ON cn)) (hg : am_gb cn cc rt ini bp nx (15, pc, cst, ns) = true) (hs : am_step K (15, pc, cst, ns) L S h = some (.inr (j, L', S', h'))) (hk : am_at p l e R s m args below meth c Q D base xa cA x nL n0 s0 (am_nj nx bp j) L' S' h') : am_at p l e R s m args below meth c Q D base xa cA x nL n0 s0 pc L S h := by
  simp only [am_gb] at hg
  simp only [am_step] at hs
  split at hs
  · rename_i o b a S1
    obtain ⟨rfl, rfl, rfl, rfl⟩ := am_nx_inj hs
    rw [Bool.and_eq_true] at hg
    exact so_15 cx (of_decide_eq_true hg.1) (am_dq_of hg.2) hk
  · cases hs
theorem sx_12 (cx : am_cx p s m args c D base xa cA x cc nL n0 (am_ON cn)) (hg : am_gb cn cc rt ini bp nx (12, pc, cst, ns) = true) (hs : am_step K (12, pc, cst, ns) L S h = some (.inr (j, L', S', h'))) (hk : am_at p l e R s m args below meth c Q D base xa cA x nL n0 s0 (am_nj nx bp j) L' S' h') : am_at p l e R s m args below meth c Q D base xa cA x nL n0 s0 pc L S h := by
  simp only [am_gb] at hg
  simp only [am_step] at hs
  split at hs
  · rename_i o b a S1
    obtain ⟨g1, hs⟩ := am_ok_inj hs
    obtain ⟨rfl, rfl, rfl, rfl⟩ := am_nx_inj hs
    rw [Bool.and_eq_true] at hg
    exact so_12 cx (of_decide_eq_true hg.1) (am_dq_of hg.2) (of_decide_eq_true g1) hk
  · cases hs
theorem sx_16 (cx : am_cx p s m args c D base xa cA x cc nL n0 (am_ON cn)) (hg : am_gb cn cc rt ini bp nx (16, pc, cst, ns) = true) (hs : am_step K (16, pc, cst, ns) L S h = some (.inr (j, L', S', h'))) (hk : am_at p l e R s m args below meth c Q D base xa cA x nL n0 s0 (am_nj nx bp j) L' S' h') : am_at p l e R s m args below meth c Q D base xa cA x nL n0 s0 pc L S h := by
  simp only [am_gb] at hg
  simp only [am_step] at hs
  split at hs
  · rename_i o b a S1
    obtain ⟨g1, hs⟩ := am_ok_inj hs
    obtain ⟨rfl, rfl, rfl, rfl⟩ := am_nx_inj hs
    rw [Bool.and_eq_true] at hg
    exact so_16 cx (of_decide_eq_true hg.1) (am_dq_of hg.2) (of_decide_eq_true g1) hk
  · cases hs
theorem sx_14 (cx : am_cx p s m args c D base xa cA x cc nL n0 (am_ON cn)) (hg : am_gb cn cc rt ini bp nx (14, pc, cst, ns) = true) (hs : am_step K (14, pc, cst, ns) L S h = some (.inr (j, L', S', h'))) (hk : am_at p l e R s m args below meth c Q D base xa cA x nL n0 s0 (am_nj nx bp j) L' S' h') : am_at p l e R s m args below meth c Q D base xa cA x nL n0 s0 pc L S h := by
  simp only [am_gb] at hg
  simp only [am_step] at hs
  split at hs
  · obtain ⟨rfl, rfl, rfl, rfl⟩ := am_nx_inj hs
    exact so_14 cx (am_dq_of hg) hk
  · cases hs
theorem sx_18 (cx : am_cx p s m args c D base xa cA x cc nL n0 (am_ON cn)) (hg : am_gb cn cc rt ini bp nx (18, pc, cst, ns) = true) (hs : am_step K (18, pc, cst, ns) L S h = some (.inr (j, L', S', h'))) (hk : am_at p l e R s m args below meth c Q D base xa cA x nL n0 s0 (am_nj nx bp j) L' S' h') : am_at p l e R s m args below meth c Q D base xa cA x nL n0 s0 pc L S h := by
  simp only [am_gb] at hg
  simp only [am_step] at hs
  split at hs
  · obtain ⟨rfl, rfl, rfl, rfl⟩ := am_nx_inj hs
    exact so_18 cx (am_dq_of hg) hk
  · cases hs
theorem sx_19 (cx : am_cx p s m args c D base xa cA x cc nL n0 (am_ON cn)) (hg : am_gb cn cc rt ini bp nx (19, pc, cst, ns) = true) (hs : am_step K (19, pc, cst, ns) L S h = some (.inr (j, L', S', h'))) (hk : am_at p l e R s m args below meth c Q D base xa cA x nL n0 s0 (am_nj nx bp j) L' S' h') : am_at p l e R s m args below meth c Q D base xa cA x nL n0 s0 pc L S h := by
  simp only [am_gb] at hg
  simp only [am_step] at hs
  split at hs
  · obtain ⟨rfl, rfl, rfl, rfl⟩ := am_nx_inj hs
    exact so_19 cx (am_dq_of hg) hk
  · cases hs
theorem sx_20 (cx : am_cx p s m args c D base xa cA x cc nL n0 (am_ON cn)) (hg : am_gb cn cc rt ini bp nx (20, pc, cst, ns) = true) (hs : am_step K (20, pc, cst, ns) L S h = some (.inr (j, L', S', h'))) (hk : am_at p l e R s m args below meth c Q D base xa cA x nL n0 s0 (am_nj nx bp j) L' S' h') : am_at p l e R s m args below meth c Q D base xa cA x nL n0 s0 pc L S h := by
  simp only [am_gb] at hg
  simp only [am_step] at hs
  split at hs
  · obtain ⟨rfl, rfl, rfl, rfl⟩ := am_nx_inj hs
    exact so_20 cx (am_dq_of hg) hk
  · cases hs
theorem sx_21 (cx : am_cx p s m args c D base xa cA x cc nL n0 (am_ON cn)) (hg : am_gb cn cc rt ini bp nx (21, pc, cst, ns) = true) (hs : am_step K (21, pc, cst, ns) L S h = some (.inr (j, L', S', h'))) (hk : am_at p l e R s m args below meth c Q D base xa cA x nL n0 s0 (am_nj nx bp j) L' S' h') : am_at p l e R s m args below meth c Q D base xa cA x nL n0 s0 pc L S h := by
  simp only [am_gb] at hg
  simp only [am_step] at hs
  split at hs
  · obtain ⟨rfl, rfl, rfl, rfl⟩ := am_nx_inj hs
    exact so_21 cx (am_dq_of hg) hk
  · cases hs
theorem sx_22 (cx : am_cx p s m args c D base xa cA x cc nL n0 (am_ON cn)) (hg : am_gb cn cc rt ini bp nx (22, pc, cst, ns) = true) (hs : am_step K (22, pc, cst, ns) L S h = some (.inr (j, L', S', h'))) (hk : am_at p l e R s m args below meth c Q D base xa cA x nL n0 s0 (am_nj nx bp j) L' S' h') : am_at p l e R s m args below meth c Q D base xa cA x nL n0 s0 pc L S h := by
  simp only [am_gb] at hg
  simp only [am_step] at hs
  split at hs
  · obtain ⟨g1, hs⟩ := am_ok_inj hs
    obtain ⟨rfl, rfl, rfl, rfl⟩ := am_nx_inj hs
    exact so_22 cx (am_dq_of hg) (of_decide_eq_true g1) hk
  · cases hs
theorem sx_24 (cx : am_cx p s m args c D base xa cA x cc nL n0 (am_ON cn)) (hg : am_gb cn cc rt ini bp nx (24, pc, cst, ns) = true) (hs : am_step K (24, pc, cst, ns) L S h = some (.inr (j, L', S', h'))) (hk : am_at p l e R s m args below meth c Q D base xa cA x nL n0 s0 (am_nj nx bp j) L' S' h') : am_at p l e R s m args below meth c Q D base xa cA x nL n0 s0 pc L S h := by
  simp only [am_gb] at hg
  simp only [am_step] at hs
  split at hs
  · obtain ⟨g1, hs⟩ := am_ok_inj hs
    obtain ⟨rfl, rfl, rfl, rfl⟩ := am_nx_inj hs
    exact so_24 cx (am_dq_of hg) (of_decide_eq_true g1) hk
  · cases hs
theorem sx_23 (cx : am_cx p s m args c D base xa cA x cc nL n0 (am_ON cn)) (hg : am_gb cn cc rt ini bp nx (23, pc, cst, ns) = true) (hs : am_step K (23, pc, cst, ns) L S h = some (.inr (j, L', S', h'))) (hk : am_at p l e R s m args below meth c Q D base xa cA x nL n0 s0 (am_nj nx bp j) L' S' h') : am_at p l e R s m args below meth c Q D base xa cA x nL n0 s0 pc L S h := by
  simp only [am_gb] at hg
  simp only [am_step] at hs
  split at hs
  · obtain ⟨g1, hs⟩ := am_ok_inj hs
    obtain ⟨rfl, rfl, rfl, rfl⟩ := am_nx_inj hs
    have g1 := of_decide_eq_true g1
    exact so_23 cx (am_dq_of hg) g1.1 g1.2 hk
  · cases hs
theorem sx_25 (cx : am_cx p s m args c D base xa cA x cc nL n0 (am_ON cn)) (hg : am_gb cn cc rt ini bp nx (25, pc, cst, ns) = true) (hs : am_step K (25, pc, cst, ns) L S h = some (.inr (j, L', S', h'))) (hk : am_at p l e R s m args below meth c Q D base xa cA x nL n0 s0 (am_nj nx bp j) L' S' h') : am_at p l e R s m args below meth c Q D base xa cA x nL n0 s0 pc L S h := by
  simp only [am_gb] at hg
  simp only [am_step] at hs
  split at hs
  · unfold am_if at hs
    obtain ⟨rfl, rfl, rfl, rfl⟩ := am_jp_inj hs
    refine so_25 cx (am_jq_of hg) ?_
    rw [← apply_ite bp]
    exact hk
  · cases hs
theorem sx_26 (cx : am_cx p s m args c D base xa cA x cc nL n0 (am_ON cn)) (hg : am_gb cn cc rt ini bp nx (26, pc, cst, ns) = true) (hs : am_step K (26, pc, cst, ns) L S h = some (.inr (j, L', S', h'))) (hk : am_at p l e R s m args below meth c Q D base xa cA x nL n0 s0 (am_nj nx bp j) L' S' h') : am_at p l e R s m args below meth c Q D base xa cA x nL n0 s0 pc L S h := by
  simp only [am_gb] at hg
  simp only [am_step] at hs
  split at hs
  · unfold am_if at hs
    obtain ⟨rfl, rfl, rfl, rfl⟩ := am_jp_inj hs
    refine so_26 cx (am_jq_of hg) ?_
    rw [← apply_ite bp]
    exact hk
  · cases hs
theorem sx_27 (cx : am_cx p s m args c D base xa cA x cc nL n0 (am_ON cn)) (hg : am_gb cn cc rt ini bp nx (27, pc, cst, ns) = true) (hs : am_step K (27, pc, cst, ns) L S h = some (.inr (j, L', S', h'))) (hk : am_at p l e R s m args below meth c Q D base xa cA x nL n0 s0 (am_nj nx bp j) L' S' h') : am_at p l e R s m args below meth c Q D base xa cA x nL n0 s0 pc L S h := by
  simp only [am_gb] at hg
  simp only [am_step] at hs
  split at hs
  · unfold am_if at hs
    obtain ⟨rfl, rfl, rfl, rfl⟩ := am_jp_inj hs
    refine so_27 cx (am_jq_of hg) ?_
    rw [← apply_ite bp]
    exact hk
  · cases hs
theorem sx_28 (cx : am_cx p s m args c D base xa cA x cc nL n0 (am_ON cn)) (hg : am_gb cn cc rt ini bp nx (28, pc, cst, ns) = true) (hs : am_step K (28, pc, cst, ns) L S h = some (.inr (j, L', S', h'))) (hk : am_at p l e R s m args below meth c Q D base xa cA x nL n0 s0 (am_nj nx bp j) L' S' h') : am_at p l e R s m args below meth c Q D base xa cA x nL n0 s0 pc L S h := by
  simp only [am_gb] at hg
  simp only [am_step] at hs
  split at hs
  · obtain ⟨rfl, rfl, rfl, rfl⟩ := am_jp_inj hs
    exact so_28 cx (of_decide_eq_true hg) hk
  · cases hs
theorem sx_29 (cx : am_cx p s m args c D base xa cA x cc nL n0 (am_ON cn)) (hg : am_gb cn cc rt ini bp nx (29, pc, cst, ns) = true) (hs : am_step K (29, pc, cst, ns) L S h = some (.inr (j, L', S', h'))) (hk : am_at p l e R s m args below meth c Q D base xa cA x nL n0 s0 (am_nj nx bp j) L' S' h') : am_at p l e R s m args below meth c Q D base xa cA x nL n0 s0 pc L S h := by
  simp only [am_gb] at hg
  simp only [am_step] at hs
  split at hs
  · rename_i d' ts a S1
    obtain ⟨rfl, rfl, rfl, rfl⟩ := am_jp_inj hs
    obtain ⟨len, hd⟩ := am_sw_of hg
    rw [← List.length_map (f := bp)] at hd
    refine so_29 cx hd ?_
    rw [List.length_map]
    by_cases g : a < cst ∨ cst + (ts.length : Int) ≤ a
    · rw [if_pos g]
      have hk := hk
      simp only [if_pos g] at hk
      exact hk
    · rw [if_neg g]
      have hk := hk
      simp only [if_neg g] at hk
      have hi : (a - cst).toNat < ts.length := by omega
      have e1 : (ts.map bp).getD (a - cst).toNat 0 = bp (ts.getD (a - cst).toNat 0) := by
        simp [hi]
      rw [e1]
      exact hk
  · cases hs
theorem sx_30 (cx : am_cx p s m args c D base xa cA x cc nL n0 (am_ON cn)) (hX : am_X base xa x s) (hg : am_gb cn cc rt ini bp nx (30, pc, cst, ns) = true) (hs : am_step K (30, pc, cst, ns) L S h = some (.inr (j, L', S', h'))) (hk : am_at p l e R s m args below meth c Q D base xa cA x nL n0 s0 (am_nj nx bp j) L' S' h') : am_at p l e R s m args below meth c Q D base xa cA x nL n0 s0 pc L S h := by
  simp only [am_gb] at hg
  simp only [am_step] at hs
  split at hs
  · obtain ⟨g1, hs⟩ := am_ok_inj hs
    obtain ⟨rfl, rfl, rfl, rfl⟩ := am_nx_inj hs
    exact so_30 cx hX.1 (am_dq_of hg) g1 hk
  · cases hs
theorem sx_31 (cx : am_cx p s m args c D base xa cA x cc nL n0 (am_ON cn)) (hg : am_gb cn cc rt ini bp nx (31, pc, cst, ns) = true) (hs : am_step K (31, pc, cst, ns) L S h = some (.inr (j, L', S', h'))) (hk : am_at p l e R s m args below meth c Q D base xa cA x nL n0 s0 (am_nj nx bp j) L' S' h') : am_at p l e R s m args below meth c Q D base xa cA x nL n0 s0 pc L S h := by
  simp only [am_gb] at hg
  simp only [am_step] at hs
  split at hs
  · obtain ⟨g1, hs⟩ := am_ok_inj hs
    obtain ⟨rfl, rfl, rfl, rfl⟩ := am_nx_inj hs
    rw [Bool.and_eq_true] at hg
    exact so_31 cx (of_decide_eq_true hg.1) (am_dq_of hg.2) g1 hk
  · cases hs
theorem sx_33 (cx : am_cx p s m args c D base xa cA x cc nL n0 (am_ON cn)) (hg : am_gb cn cc rt ini bp nx (33, pc, cst, ns) = true) (hs : am_step K (33, pc, cst, ns) L S h = some (.inr (j, L', S', h'))) (hk : am_at p l e R s m args below meth c Q D base xa cA x nL n0 s0 (am_nj nx bp j) L' S' h') : am_at p l e R s m args below meth c Q D base xa cA x nL n0 s0 pc L S h := by
  simp only [am_gb] at hg
  simp only [am_step] at hs
  split at hs
  · obtain ⟨g1, hs⟩ := am_ok_inj hs
    obtain ⟨rfl, rfl, rfl, rfl⟩ := am_nx_inj hs
    rw [Bool.and_eq_true] at hg
    exact so_33 cx (of_decide_eq_true hg.1) (am_dq_of hg.2) g1 hk
  · cases hs
theorem sx_35 (cx : am_cx p s m args c D base xa cA x cc nL n0 (am_ON cn)) (hg : am_gb cn cc rt ini bp nx (35, pc, cst, ns) = true) (hs : am_step K (35, pc, cst, ns) L S h = some (.inr (j, L', S', h'))) (hk : am_at p l e R s m args below meth c Q D base xa cA x nL n0 s0 (am_nj nx bp j) L' S' h') : am_at p l e R s m args below meth c Q D base xa cA x nL n0 s0 pc L S h := by
  simp only [am_gb] at hg
  simp only [am_step] at hs
  split at hs
  · obtain ⟨g1, hs⟩ := am_ok_inj hs
    obtain ⟨rfl, rfl, rfl, rfl⟩ := am_nx_inj hs
    rw [Bool.and_eq_true] at hg
    exact so_35 cx (of_decide_eq_true hg.1) (am_dq_of hg.2) g1 hk
  · cases hs
theorem sx_37 (cx : am_cx p s m args c D base xa cA x cc nL n0 (am_ON cn)) (hg : am_gb cn cc rt ini bp nx (37, pc, cst, ns) = true) (hs : am_step K (37, pc, cst, ns) L S h = some (.inr (j, L', S', h'))) (hk : am_at p l e R s m args below meth c Q D base xa cA x nL n0 s0 (am_nj nx bp j) L' S' h') : am_at p l e R s m args below meth c Q D base xa cA x nL n0 s0 pc L S h := by
  simp only [am_gb] at hg
  simp only [am_step] at hs
  split at hs
  · obtain ⟨g1, hs⟩ := am_ok_inj hs
    obtain ⟨rfl, rfl, rfl, rfl⟩ := am_nx_inj hs
    rw [Bool.and_eq_true] at hg
    exact so_37 cx (of_decide_eq_true hg.1) (am_dq_of hg.2) g1 hk
  · cases hs
theorem sx_32 (cx : am_cx p s m args c D base xa cA x cc nL n0 (am_ON cn)) (hg : am_gb cn cc rt ini bp nx (32, pc, cst, ns) = true) (hs : am_step K (32, pc, cst, ns) L S h = some (.inr (j, L', S', h'))) (hk : am_at p l e R s m args below meth c Q D base xa cA x nL n0 s0 (am_nj nx bp j) L' S' h') : am_at p l e R s m args below meth c Q D base xa cA x nL n0 s0 pc L S h := by
  simp only [am_gb] at hg
  simp only [am_step] at hs
  split at hs
  · obtain ⟨g1, hs⟩ := am_ok_inj hs
    obtain ⟨rfl, rfl, rfl, rfl⟩ := am_nx_inj hs
    exact so_32 cx (am_dq_of hg) g1 hk
  · cases hs
theorem sx_34 (cx : am_cx p s m args c D base xa cA x cc nL n0 (am_ON cn)) (hg : am_gb cn cc rt ini bp nx (34, pc, cst, ns) = true) (hs : am_step K (34, pc, cst, ns) L S h = some (.inr (j, L', S', h'))) (hk : am_at p l e R s m args below meth c Q D base xa cA x nL n0 s0 (am_nj nx bp j) L' S' h') : am_at p l e R s m args below meth c Q D base xa cA x nL n0 s0 pc L S h := by
  simp only [am_gb] at hg
  simp only [am_step] at hs
  split at hs
  · obtain ⟨g1, hs⟩ := am_ok_inj hs
    obtain ⟨rfl, rfl, rfl, rfl⟩ := am_nx_inj hs
    exact so_34 cx (am_dq_of hg) g1 hk
  · cases hs
theorem sx_36 (cx : am_cx p s m args c D base xa cA x cc nL n0 (am_ON cn)) (hg : am_gb cn cc rt ini bp nx (36, pc, cst, ns) = true) (hs : am_step K (36, pc, cst, ns) L S h = some (.inr (j, L', S', h'))) (hk : am_at p l e R s m args below meth c Q D base xa cA x nL n0 s0 (am_nj nx bp j) L' S' h') : am_at p l e R s m args below meth c Q D base xa cA x nL n0 s0 pc L S h := by
  simp only [am_gb] at hg
  simp only [am_step] at hs
  split at hs
  · obtain ⟨g1, hs⟩ := am_ok_inj hs
    obtain ⟨rfl, rfl, rfl, rfl⟩ := am_nx_inj hs
    exact so_36 cx (am_dq_of hg) g1 hk
  · cases hs
theorem sx_38 (cx : am_cx p s m args c D base xa cA x cc nL n0 (am_ON cn)) (hX : am_X base xa x s) (hg : am_gb cn cc rt ini bp nx (38, pc, cst, ns) = true) (hs : am_step K (38, pc, cst, ns) L S h = some (.inr (j, L', S', h'))) (hk : am_at p l e R s m args below meth c Q D base xa cA x nL n0 s0 (am_nj nx bp j) L' S' h') : am_at p l e R s m args below meth c Q D base xa cA x nL n0 s0 pc L S h := by
  simp only [am_gb] at hg
  simp only [am_step] at hs
  split at hs
  · rename_i q S1
    split at hs
    · rename_i n hn
      obtain ⟨rfl, rfl, rfl, rfl⟩ := am_nx_inj hs
      unfold am_len at hn
      split at hn
      · rename_i t n' e1
        split at hn
        · rename_i ht
          cases hn
          exact so_38 cx hX.1 (am_dq_of hg) e1 (by omega) hk
        · cases hn
      · cases hn
    · cases hs
  · cases hs
theorem sx_39 (cx : am_cx p s m args c D base xa cA x cc nL n0 (am_ON cn)) (hX : am_X base xa x s) (hc1 : h'.1.1 ≤ n0 + R.cells) (hs1 : h'.1.2.1 ≤ s0 + R.slots) (hg : am_gb cn cc rt ini bp nx (39, pc, cst, ns) = true) (hs : am_step K (39, pc, cst, ns) L S h = some (.inr (j, L', S', h'))) (hk : am_at p l e R s m args below meth c Q D base xa cA x nL n0 s0 (am_nj nx bp j) L' S' h') : am_at p l e R s m args below meth c Q D base xa cA x nL n0 s0 pc L S h := by
  simp only [am_gb] at hg
  simp only [am_step] at hs
  split at hs
  · rename_i t k n S1
    obtain ⟨g1, hs⟩ := am_ok_inj hs
    have g1 := of_decide_eq_true g1
    obtain ⟨rfl, rfl, rfl, rfl⟩ := am_nx_inj hs
    simp only [Bool.or_eq_true, Bool.and_eq_true] at hg
    rcases hg with ((((⟨a, b⟩ | ⟨a, b⟩) | ⟨a, b⟩) | ⟨a, b⟩) | ⟨⟨a, a2⟩, b⟩) | ⟨⟨a, a2⟩, b⟩
    · exact so_39p (at' := .int) cx (Or.inl ⟨of_decide_eq_true a, rfl⟩) (am_dq_of b) am_ax_int g1 hc1 hs1 hk
    · exact so_39p (at' := .byte) cx (Or.inr (Or.inl ⟨of_decide_eq_true a, rfl⟩)) (am_dq_of b) am_ax_byte g1 hc1 hs1 hk
    · exact so_39p (at' := .boolean) cx (Or.inr (Or.inr (Or.inl ⟨of_decide_eq_true a, rfl⟩))) (am_dq_of b) am_ax_boolean g1 hc1 hs1 hk
    · exact so_39p (at' := .long) cx (Or.inr (Or.inr (Or.inr ⟨of_decide_eq_true a, rfl⟩))) (am_dq_of b) am_ax_long g1 hc1 hs1 hk
    · exact so_39r (C := RX9) cx (Or.inl ⟨of_decide_eq_true a, rfl⟩) (am_dq_of b) (am_CK_ok _ (of_decide_eq_true a2)) hX.2.2.2.2.2.2.1 g1 hc1 hs1 hk
    · exact so_39r (C := RX1) cx (Or.inr ⟨of_decide_eq_true a, rfl⟩) (am_dq_of b) (am_CK_ok _ (of_decide_eq_true a2)) hX.2.2.2.2.2.2.2.1 g1 hc1 hs1 hk
  · cases hs
theorem sx_41 (cx : am_cx p s m args c D base xa cA x cc nL n0 (am_ON cn)) (hg : am_gb cn cc rt ini bp nx (41, pc, cst, ns) = true) (hs : am_step K (41, pc, cst, ns) L S h = some (.inr (j, L', S', h'))) (hk : am_at p l e R s m args below meth c Q D base xa cA x nL n0 s0 (am_nj nx bp j) L' S' h') : am_at p l e R s m args below meth c Q D base xa cA x nL n0 s0 pc L S h := by
  simp only [am_gb] at hg
  simp only [am_step] at hs
  split at hs
  · rename_i ci k kd jj q S1
    obtain ⟨g1, hs⟩ := am_ok_inj hs
    obtain ⟨rfl, rfl, rfl, rfl⟩ := am_nx_inj hs
    simp only [Bool.and_eq_true] at hg
    obtain ⟨⟨a, b⟩, c'⟩ := hg
    have a := of_decide_eq_true a
    exact so_41 cx a.1 a.2.1 (am_dq_of c') (am_FT_ok _ (of_decide_eq_true b)) a.2.2 g1 hk
  · cases hs
theorem sx_42 (cx : am_cx p s m args c D base xa cA x cc nL n0 (am_ON cn)) (hini : ini = true → meth.name = "<init>") (hg : am_gb cn cc rt ini bp nx (42, pc, cst, ns) = true) (hs : am_step K (42, pc, cst, ns) L S h = some (.inr (j, L', S', h'))) (hk : am_at p l e R s m args below meth c Q D base xa cA x nL n0 s0 (am_nj nx bp j) L' S' h') : am_at p l e R s m args below meth c Q D base xa cA x nL n0 s0 pc L S h := by
  simp only [am_gb] at hg
  simp only [am_step] at hs
  split at hs
  · rename_i ci k kd jj v q S1
    obtain ⟨g1, hs⟩ := am_ok_inj hs
    obtain ⟨rfl, rfl, rfl, rfl⟩ := am_nx_inj hs
    simp only [Bool.and_eq_true, Bool.or_eq_true] at hg g1
    obtain ⟨⟨⟨⟨a, b⟩, c'⟩, f⟩, t⟩ := hg
    have a := of_decide_eq_true a
    obtain ⟨g1, g2⟩ := g1
    have ht : (am_tN ci k = .int ∨ (am_tN ci k = .boolean ∧ (v = 0 ∨ v = 1))) ∧ (am_fk ci).getD k 0 = 0 := by
      rcases t with ((⟨t1, t2⟩ | ⟨t1, t2⟩) | ⟨t1, t2⟩) | ⟨⟨t1, t2⟩, t3⟩
      · have t2 := of_decide_eq_true t2
        exact ⟨Or.inl t2.1, t2.2⟩
      · have t2 := of_decide_eq_true t2
        have t1 := of_decide_eq_true t1
        rcases g2 with g2 | ⟨g2, g3⟩
        · have := of_decide_eq_true g2
          omega
        · exact ⟨Or.inr ⟨t2.1, of_decide_eq_true g3⟩, t2.2⟩
      · have t1 := of_decide_eq_true t1
        rcases g2 with g2 | ⟨g2, g3⟩
        · have := of_decide_eq_true g2
          omega
        · have := of_decide_eq_true g2
          omega
      · have t1 := of_decide_eq_true t1
        rcases g2 with g2 | ⟨g2, g3⟩
        · have := of_decide_eq_true g2
          omega
        · have := of_decide_eq_true g2
          omega
    exact so_42i cx a.1 a.2 (am_dq_of c') (am_FT_ok _ (of_decide_eq_true b)) (by
      rcases am_fr_of f with z | ⟨z1, z2, z3⟩
      · exact Or.inl z
      · exact Or.inr ⟨z1, hini z2, z3⟩) ht.1 ht.2 g1 hk
  · rename_i ci k kd jj v q S1
    obtain ⟨g1, hs⟩ := am_ok_inj hs
    obtain ⟨rfl, rfl, rfl, rfl⟩ := am_nx_inj hs
    simp only [Bool.and_eq_true, Bool.or_eq_true] at hg g1
    obtain ⟨⟨⟨⟨a, b⟩, c'⟩, f⟩, t⟩ := hg
    have a := of_decide_eq_true a
    obtain ⟨g1, g2⟩ := g1
    have g2 := of_decide_eq_true g2
    have ht : am_tN ci k = .long ∧ (am_fk ci).getD k 0 = 1 := by
      rcases t with ((⟨t1, t2⟩ | ⟨t1, t2⟩) | ⟨t1, t2⟩) | ⟨⟨t1, t2⟩, t3⟩
      · have t1 := of_decide_eq_true t1
        omega
      · have t1 := of_decide_eq_true t1
        omega
      · exact of_decide_eq_true t2
      · have t1 := of_decide_eq_true t1
        omega
    exact so_42l cx a.1 a.2 (am_dq_of c') (am_FT_ok _ (of_decide_eq_true b)) (by
      rcases am_fr_of f with z | ⟨z1, z2, z3⟩
      · exact Or.inl z
      · exact Or.inr ⟨z1, hini z2, z3⟩) ht.1 ht.2 g1 hk
  · rename_i ci k kd jj v q S1
    obtain ⟨g1, hs⟩ := am_ok_inj hs
    obtain ⟨rfl, rfl, rfl, rfl⟩ := am_nx_inj hs
    simp only [Bool.and_eq_true, Bool.or_eq_true] at hg g1
    obtain ⟨⟨⟨⟨a, b⟩, c'⟩, f⟩, t⟩ := hg
    have a := of_decide_eq_true a
    obtain ⟨g1, g2⟩ := g1
    have g2 := of_decide_eq_true g2
    have ht : ((∃ n, am_tN ci k = .object n) ∨ ∃ t, am_tN ci k = .array t) ∧ (am_fk ci).getD k 0 = 2 := by
      rcases t with ((⟨t1, t2⟩ | ⟨t1, t2⟩) | ⟨t1, t2⟩) | ⟨⟨t1, t2⟩, t3⟩
      · have t1 := of_decide_eq_true t1
        omega
      · have t1 := of_decide_eq_true t1
        omega
      · have t1 := of_decide_eq_true t1
        omega
      · refine ⟨?_, of_decide_eq_true t2⟩
        split at t3
        · rename_i n e1
          exact Or.inl ⟨n, e1⟩
        · rename_i n e1
          exact Or.inr ⟨n, e1⟩
        · cases t3
    exact so_42r cx a.1 a.2 (am_dq_of c') (am_FT_ok _ (of_decide_eq_true b)) (by
      rcases am_fr_of f with z | ⟨z1, z2, z3⟩
      · exact Or.inl z
      · exact Or.inr ⟨z1, hini z2, z3⟩) ht.1 ht.2 g1 hk
  · cases hs
theorem sx_44 (cx : am_cx p s m args c D base xa cA x cc nL n0 (am_ON cn)) (hc1 : h'.1.1 ≤ n0 + R.cells) (hs1 : h'.1.2.1 ≤ s0 + R.slots) (hg : am_gb cn cc rt ini bp nx (44, pc, cst, ns) = true) (hs : am_step K (44, pc, cst, ns) L S h = some (.inr (j, L', S', h'))) (hk : am_at p l e R s m args below meth c Q D base xa cA x nL n0 s0 (am_nj nx bp j) L' S' h') : am_at p l e R s m args below meth c Q D base xa cA x nL n0 s0 pc L S h := by
  simp only [am_gb] at hg
  simp only [am_step] at hs
  split at hs
  · rename_i ci k
    obtain ⟨rfl, rfl, rfl, rfl⟩ := am_nx_inj hs
    simp only [Bool.and_eq_true] at hg
    obtain ⟨⟨⟨a, b⟩, f⟩, c'⟩ := hg
    have f := of_decide_eq_true f
    have a := of_decide_eq_true a
    have e1 : ∀ ci, ci < 13 → am_ON ci = am_RN ci := by decide +kernel
    refine so_44 cx a (am_dq_of c') (am_CK_ok _ (of_decide_eq_true b)) (am_IN_ok _ f.1) ?_ hc1 hs1 hk
    rw [← e1 ci a]
    exact am_IZ_ok _ f.2
  · cases hs
theorem sx_45 (cx : am_cx p s m args c D base xa cA x cc nL n0 (am_ON cn)) (hX : am_X base xa x s) (hK : am_KC l D base xa cA x K d) (hR : d + 1 ≤ R.frames ∧ 64 * (d + 1) ≤ R.locals) (hc1 : h'.1.1 ≤ n0 + R.cells) (hs1 : h'.1.2.1 ≤ s0 + R.slots) (hg : am_gb cn cc rt ini bp nx (45, pc, cst, ns) = true) (hs : am_step K (45, pc, cst, ns) L S h = some (.inr (j, L', S', h'))) (hk : am_at p l e R s m args below meth c Q D base xa cA x nL n0 s0 (am_nj nx bp j) L' S' h') : am_at p l e R s m args below meth c Q D base xa cA x nL n0 s0 pc L S h := by
  simp only [am_gb] at hg
  simp only [am_step] at hs
  split at hs
  · rename_i y n k
    obtain ⟨g1, hs⟩ := am_ok_inj hs
    obtain ⟨v, h1, e1, rfl, rfl, rfl, rfl⟩ := am_back_inj hs
    simp only [Bool.and_eq_true, Bool.or_eq_true] at hg
    obtain ⟨⟨⟨a, b⟩, f⟩, c'⟩ := hg
    have a := of_decide_eq_true a
    have g1 := of_decide_eq_true g1
    obtain ⟨a1, rfl⟩ := a
    refine so_45 (v := v) cx hX (am_dq_of c') (am_mi_of a1) (am_ST_ok _ (of_decide_eq_true b)) ?_ hR g1 (fun o2 o3 => hK y _ h v h1 a1 e1 o2 o3) hc1 hs1 hk
    rcases f with f | f
    · exact Or.inl (am_ML_ok _ (of_decide_eq_true f))
    · exact Or.inr ⟨_, hX.2.2.2.2.1 _ (am_MN_ok _ (of_decide_eq_true f))⟩
  · cases hs
theorem sx_46 (cx : am_cx p s m args c D base xa cA x cc nL n0 (am_ON cn)) (hX : am_X base xa x s) (hK : am_KC l D base xa cA x K d) (hR : d + 1 ≤ R.frames ∧ 64 * (d + 1) ≤ R.locals) (hc1 : h'.1.1 ≤ n0 + R.cells) (hs1 : h'.1.2.1 ≤ s0 + R.slots) (hg : am_gb cn cc rt ini bp nx (46, pc, cst, ns) = true) (hs : am_step K (46, pc, cst, ns) L S h = some (.inr (j, L', S', h'))) (hk : am_at p l e R s m args below meth c Q D base xa cA x nL n0 s0 (am_nj nx bp j) L' S' h') : am_at p l e R s m args below meth c Q D base xa cA x nL n0 s0 pc L S h := by
  simp only [am_gb] at hg
  simp only [am_step] at hs
  split at hs
  · rename_i y n ci k
    split at hs
    · rename_i q as hta
      obtain ⟨g1, hs⟩ := am_ok_inj hs
      obtain ⟨v, h1, e1, rfl, rfl, rfl, rfl⟩ := am_back_inj hs
      simp only [Bool.and_eq_true, Bool.or_eq_true] at hg g1
      obtain ⟨⟨a, b⟩, f⟩ := hg
      have a := of_decide_eq_true a
      obtain ⟨a1, rfl, a3, rfl⟩ := a
      have e2 : ∀ ci, ci < 13 → am_ON ci = am_RN ci := by decide +kernel
      refine so_46 (k := k) (v := v) (q := q) (as := as) (ci := am_kn y) cx hX a3 ?_ (am_mi_of a1) (am_IM_ok _ (of_decide_eq_true b)) hR (of_decide_eq_true g1.1) hta g1.2 (fun o2 o3 => hK y _ h v h1 a1 e1 o2 o3) hc1 hs1 hk
      rcases f with ⟨⟨f1, f2⟩, f3⟩ | ⟨⟨f1, f2⟩, f3⟩
      · refine Or.inl ⟨am_dq_of f3, ?_, am_ML_ok _ (of_decide_eq_true f2)⟩
        rw [← e2 _ a3]
        exact am_SV_ok _ (of_decide_eq_true f1)
      · have f1 := of_decide_eq_true f1
        refine Or.inr ⟨am_dq_of f3, f1.1, f1.2, ?_⟩
        rcases f2 with f2 | f2
        · exact Or.inl (am_ML_ok _ (of_decide_eq_true f2))
        · exact Or.inr ⟨_, hX.2.2.2.2.1 _ (am_MN_ok _ (of_decide_eq_true f2))⟩
    · cases hs
  · cases hs
theorem sx_47 (cx : am_cx p s m args c D base xa cA x cc nL n0 (am_ON cn)) (hR : d + 1 ≤ R.frames ∧ 64 * (d + 1) ≤ R.locals) (hg : am_gb cn cc rt ini bp nx (47, pc, cst, ns) = true) (hs : am_step K (47, pc, cst, ns) L S h = some (.inr (j, L', S', h'))) (hk : am_at p l e R s m args below meth c Q D base xa cA x nL n0 s0 (am_nj nx bp j) L' S' h') : am_at p l e R s m args below meth c Q D base xa cA x nL n0 s0 pc L S h := by
  simp only [am_gb] at hg
  simp only [am_step] at hs
  split at hs
  · obtain ⟨g1, hs⟩ := am_ok_inj hs
    obtain ⟨rfl, rfl, rfl, rfl⟩ := am_nx_inj hs
    split at hg
    · rw [Bool.and_eq_true] at hg
      exact so_47 cx (am_dq_of hg.2) (am_OI_ok _ (of_decide_eq_true hg.1)) am_x_oi am_x_oc ⟨by omega, by omega⟩ (of_decide_eq_true g1) hk
    · cases hg
  · cases hs
theorem sx_48 (cx : am_cx p s m args c D base xa cA x cc nL n0 (am_ON cn)) (hR : d + 1 ≤ R.frames ∧ 64 * (d + 1) ≤ R.locals) (hc1 : h'.1.1 ≤ n0 + R.cells) (hs1 : h'.1.2.1 ≤ s0 + R.slots) (hg : am_gb cn cc rt ini bp nx (48, pc, cst, ns) = true) (hs : am_step K (48, pc, cst, ns) L S h = some (.inr (j, L', S', h'))) (hk : am_at p l e R s m args below meth c Q D base xa cA x nL n0 s0 (am_nj nx bp j) L' S' h') : am_at p l e R s m args below meth c Q D base xa cA x nL n0 s0 pc L S h := by
  simp only [am_gb] at hg
  simp only [am_step] at hs
  split at hs
  · rename_i o k b a S1
    obtain ⟨g1, hs⟩ := am_ok_inj hs
    obtain ⟨rfl, rfl, rfl, rfl⟩ := am_nx_inj hs
    simp only [Bool.and_eq_true, Bool.or_eq_true] at hg
    obtain ⟨f, c'⟩ := hg
    refine so_48 cx (am_dq_of c') ?_ am_x_mi ⟨by omega, by omega⟩ hc1 hs1 (of_decide_eq_true g1) hk
    rcases f with ⟨f1, f2⟩ | ⟨f1, f2⟩
    · exact Or.inl ⟨of_decide_eq_true f1, am_MX_ok _ (of_decide_eq_true f2), am_x_maxs, am_x_maxc⟩
    · exact Or.inr ⟨of_decide_eq_true f1, am_MI_ok _ (of_decide_eq_true f2), am_x_mins, am_x_minc⟩
  · cases hs
theorem sx_52 (cx : am_cx p s m args c D base xa cA x cc nL n0 (am_ON cn)) (hR : d + 1 ≤ R.frames ∧ 64 * (d + 1) ≤ R.locals) (hg : am_gb cn cc rt ini bp nx (52, pc, cst, ns) = true) (hs : am_step K (52, pc, cst, ns) L S h = some (.inr (j, L', S', h'))) (hk : am_at p l e R s m args below meth c Q D base xa cA x nL n0 s0 (am_nj nx bp j) L' S' h') : am_at p l e R s m args below meth c Q D base xa cA x nL n0 s0 pc L S h := by
  simp only [am_gb] at hg
  simp only [am_step] at hs
  split at hs
  · rename_i n dp q1 sp q0 S1
    split at hs
    · rename_i n0' n1' e0 e1
      obtain ⟨g1, hs⟩ := am_ok_inj hs
      obtain ⟨rfl, rfl, rfl, rfl⟩ := am_nx_inj hs
      split at hg
      · rw [Bool.and_eq_true] at hg
        exact so_52 cx (am_dq_of hg.2) ⟨am_AC_ok _ (of_decide_eq_true hg.1), am_x_acs, am_x_aci⟩ (cx.2.2.2.2.1 _ am_x_acn) ⟨by omega, by omega⟩ e0 e1 (of_decide_eq_true g1) hk
      · cases hg
    · cases hs
  · cases hs
theorem sx_58 (cx : am_cx p s m args c D base xa cA x cc nL n0 (am_ON cn)) (hg : am_gb cn cc rt ini bp nx (58, pc, cst, ns) = true) (hs : am_step K (58, pc, cst, ns) L S h = some (.inr (j, L', S', h'))) (hk : am_at p l e R s m args below meth c Q D base xa cA x nL n0 s0 (am_nj nx bp j) L' S' h') : am_at p l e R s m args below meth c Q D base xa cA x nL n0 s0 pc L S h := by
  simp only [am_gb] at hg
  simp only [am_step] at hs
  split at hs
  · obtain ⟨rfl, rfl, rfl, rfl⟩ := am_jp_inj hs
    have hg := of_decide_eq_true hg
    rw [← hg]
    exact hk
  · cases hs
theorem sx_50 (cx : am_cx p s m args c D base xa cA x cc nL n0 (am_ON cn)) (hX : am_X base xa x s) (hS8 : am_SC8 l D base xa cA x) (h6 : 7 ≤ R.frames ∧ 448 ≤ R.locals) (hc1 : h'.1.1 ≤ n0 + R.cells) (hs1 : h'.1.2.1 ≤ s0 + R.slots) (hg : am_gb cn cc rt ini bp nx (50, pc, cst, ns) = true) (hs : am_step K (50, pc, cst, ns) L S h = some (.inr (j, L', S', h'))) (hk : am_at p l e R s m args below meth c Q D base xa cA x nL n0 s0 (am_nj nx bp j) L' S' h') : am_at p l e R s m args below meth c Q D base xa cA x nL n0 s0 pc L S h := by
  simp only [am_gb] at hg
  simp only [am_step] at hs
  split at hs
  · rename_i q S1
    split at hs
    · rename_i n e1
      obtain ⟨g1, hs⟩ := am_ok_inj hs
      obtain ⟨rfl, rfl, rfl, rfl⟩ := am_nx_inj hs
      split at hg
      · rename_i k
        rw [Bool.and_eq_true] at hg
        intro o1 o2 o3
        have hq : q < 64 := by
          rcases Nat.lt_or_ge q 64 with g | g
          · exact g
          · have := (o3.2.2.2.1 q 8 n e1).2 g
            omega
        have e2 : x.1.2.2 q = .inl (8, n) := by rw [← (o3.2.1 q hq).1]; exact e1
        obtain ⟨q1, hM, -⟩ := hS8 q n h hq e2 o3
        have hn := (o3.2.2.2.1 q 8 n e1).1
        exact so_46s (np := 0) (as := []) (v := some (.inl n)) cx hX (am_dq_of hg.2) am_js_len (am_SL_ok _ (of_decide_eq_true hg.1)) am_jm_len am_jt_len (d := 6) h6 ⟨by simp, of_decide_eq_true g1⟩ rfl q1 hM (fun _ z hz => by cases hz; exact ⟨by omega, by omega⟩) hc1 hs1 hk o1 o2 o3
      · cases hg
    · cases hs
  · cases hs
theorem sx_51 (cx : am_cx p s m args c D base xa cA x cc nL n0 (am_ON cn)) (hX : am_X base xa x s) (hS8 : am_SC8 l D base xa cA x) (h6 : 7 ≤ R.frames ∧ 448 ≤ R.locals) (hc1 : h'.1.1 ≤ n0 + R.cells) (hs1 : h'.1.2.1 ≤ s0 + R.slots) (hg : am_gb cn cc rt ini bp nx (51, pc, cst, ns) = true) (hs : am_step K (51, pc, cst, ns) L S h = some (.inr (j, L', S', h'))) (hk : am_at p l e R s m args below meth c Q D base xa cA x nL n0 s0 (am_nj nx bp j) L' S' h') : am_at p l e R s m args below meth c Q D base xa cA x nL n0 s0 pc L S h := by
  simp only [am_gb] at hg
  simp only [am_step] at hs
  split at hs
  · rename_i i q S1
    obtain ⟨g1, hs⟩ := am_ok_inj hs
    obtain ⟨rfl, rfl, rfl, rfl⟩ := am_nx_inj hs
    rw [Bool.and_eq_true] at g1
    obtain ⟨n, e1, i0, i1⟩ := am_pk_spec g1.1
    split at hg
    · rename_i k
      rw [Bool.and_eq_true] at hg
      intro o1 o2 o3
      have hq : q < 64 := by
        rcases Nat.lt_or_ge q 64 with g | g
        · exact g
        · have := (o3.2.2.2.1 q 8 n e1).2 g
          omega
      have e2 : x.1.2.2 q = .inl (8, n) := by rw [← (o3.2.1 q hq).1]; exact e1
      obtain ⟨q1, -, hM⟩ := hS8 q n h hq e2 o3
      have hM := hM i i0 i1
      rw [← (o3.2.1 q hq).2] at hM
      have hv := (o3.2.2.1 q i.toNat).2 (by rw [e1]; show (8 : Nat) ≠ 3; omega)
      exact so_46s (np := 1) (as := [.inl i]) (v := some (.inl (h.2.1 q i.toNat))) cx hX (am_dq_of hg.2) am_js_cha (am_SC_ok _ (of_decide_eq_true hg.1)) am_jm_cha am_jt_cha (d := 6) h6 ⟨by simp, of_decide_eq_true g1.2⟩ rfl q1 hM (fun _ z hz => by cases hz; exact hv) hc1 hs1 hk o1 o2 o3
    · cases hg
  · cases hs
end AMX
