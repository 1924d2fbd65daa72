/-! ===== THE ABSTRACT MACHINE'S STATE AT THE MACHINE ===== -/
def am_T : List Cond := lw_tbl.filter goodWord
theorem am_T_good {w : Cond} (h : w ∈ am_T) : (w.onTables && w.keeps) = true ∨ ∃ ty, w = .arrayClass ty := good_of_word (List.mem_filter.mp h).2
theorem am_T_of {w : Cond} (h : w ∈ lw_tbl) (h2 : goodWord w = true) : w ∈ am_T := List.mem_filter.mpr ⟨h, h2⟩
def am_tys (cA : Nat → ClassId) : List (ClassId × FieldType) := [(cA 0, .int), (cA 1, .byte), (cA 2, .boolean), (cA 3, .long), (cA 4, .object RX9), (cA 5, .object RX1)]
def am_ps (ad : Nat → Nat) (L : am_L) : List (Nat × Value) := (List.range L.length).filterMap (fun k => match L[k]? with
  | some (some v) => some (k, am_cv ad v)
  | _ => none)
theorem am_ps_mem {ad : Nat → Nat} {L : am_L} {k : Nat} {v : am_V} (h : L[k]? = some (some v)) : (k, am_cv ad v) ∈ am_ps ad L := by
  refine List.mem_filterMap.mpr ⟨k, List.mem_range.mpr (List.getElem?_eq_some_iff.mp h).1, ?_⟩
  rw [h]
def am_lh (ad : Nat → Nat) (ls : Array Slot) (nL : Nat) (L : am_L) : Prop := L.length = nL ∧ lv_has ls nL (am_ps ad L)
theorem am_lh_at {ad : Nat → Nat} {ls : Array Slot} {nL : Nat} {L : am_L} (h : am_lh ad ls nL L) {k : Nat} {v : am_V} (hk : am_ld L k = some v) : ls[k]? = some (.val (am_cv ad v)) := by
  have : L[k]? = some (some v) := by
    unfold am_ld at hk
    split at hk
    · rename_i w hw
      rw [hw, Option.some.inj hk]
    · cases hk
  exact h.2.2.2 _ (am_ps_mem this)
theorem am_cl_len (L : am_L) (k : Nat) : (am_cl L k).length = L.length := by
  cases k with
  | zero => rfl
  | succ j =>
    simp only [am_cl]
    split
    · exact List.length_set
    · rfl
theorem am_cl_at {L : am_L} {i k : Nat} {v : am_V} (h : (am_cl L i)[k]? = some (some v)) : L[k]? = some (some v) ∧ ¬ (k + 1 = i ∧ am_ct v = 2) := by
  cases i with
  | zero => exact ⟨h, fun q => by omega⟩
  | succ j =>
    simp only [am_cl] at h
    split at h
    · by_cases hk : j = k
      · subst hk
        rename_i y hy
        rw [List.getElem?_set_self (List.getElem?_eq_some_iff.mp hy).1] at h
        cases h
      · rw [List.getElem?_set_ne hk] at h
        exact ⟨h, fun q => by omega⟩
    · refine ⟨h, fun q => ?_⟩
      have : k = j := by omega
      subst this
      rename_i hn
      match v, q.2 with
      | .inr (.inl y), _ => exact hn y h
theorem am_lh_st1 {ad : Nat → Nat} {ls ls' : Array Slot} {nL i : Nat} {L : am_L} {v : am_V} (h0 : am_lh ad ls nL L) (h : lv_has ls' nL ((i, am_cv ad v) :: (am_ps ad L).filter (fun q => !(q.1 == i) && !(q.1 + 1 == i && q.2.category == 2)))) : am_lh ad ls' nL (am_st1 L i v) := by
  refine ⟨by rw [am_st1, List.length_set, am_cl_len]; exact h0.1, h.1, h.2.1, fun q hq => ?_⟩
  obtain ⟨k, hk, hkv⟩ := List.mem_filterMap.mp hq
  split at hkv
  · rename_i w hw
    rw [← Option.some.inj hkv]
    refine h.2.2 _ ?_
    have hlen : k < L.length := by have := (List.getElem?_eq_some_iff.mp hw).1; rwa [am_st1, List.length_set, am_cl_len] at this
    by_cases hik : i = k
    · subst hik
      rw [am_st1, List.getElem?_set_self (by rw [am_cl_len]; exact hlen)] at hw
      rw [Option.some.inj (Option.some.inj hw)]
      exact List.mem_cons_self
    · rw [am_st1, List.getElem?_set_ne hik] at hw
      obtain ⟨a, b⟩ := am_cl_at hw
      refine List.mem_cons_of_mem _ (List.mem_filter.mpr ⟨am_ps_mem a, ?_⟩)
      simp only [Bool.and_eq_true, Bool.not_eq_true', Bool.and_eq_false_iff, beq_eq_false_iff_ne, ne_eq]
      refine ⟨Ne.symm hik, ?_⟩
      by_cases h1 : k + 1 = i
      · right
        rw [am_ct_cv]
        exact fun q => b ⟨h1, q⟩
      · left; exact h1
  · cases hkv
theorem am_lh_st2 {ad : Nat → Nat} {ls ls' : Array Slot} {nL i : Nat} {L : am_L} {v : am_V} (h0 : am_lh ad ls nL L) (h : lv_has ls' nL ((i, am_cv ad v) :: (am_ps ad L).filter (fun q => !(q.1 == i) && (!(q.1 == i + 1) && !(q.1 + 1 == i && q.2.category == 2))))) : am_lh ad ls' nL (am_st2 L i v) := by
  refine ⟨by rw [am_st2, List.length_set, List.length_set, am_cl_len]; exact h0.1, h.1, h.2.1, fun q hq => ?_⟩
  obtain ⟨k, hk, hkv⟩ := List.mem_filterMap.mp hq
  split at hkv
  · rename_i w hw
    rw [← Option.some.inj hkv]
    refine h.2.2 _ ?_
    have hlen : k < L.length := by have := (List.getElem?_eq_some_iff.mp hw).1; rwa [am_st2, List.length_set, List.length_set, am_cl_len] at this
    by_cases hi1 : i + 1 = k
    · subst hi1
      rw [am_st2, List.getElem?_set_self (by rw [List.length_set, am_cl_len]; exact hlen)] at hw
      cases hw
    · rw [am_st2, List.getElem?_set_ne hi1] at hw
      by_cases hik : i = k
      · subst hik
        rw [List.getElem?_set_self (by rw [am_cl_len]; exact hlen)] at hw
        rw [Option.some.inj (Option.some.inj hw)]
        exact List.mem_cons_self
      · rw [List.getElem?_set_ne hik] at hw
        obtain ⟨a, b⟩ := am_cl_at hw
        refine List.mem_cons_of_mem _ (List.mem_filter.mpr ⟨am_ps_mem a, ?_⟩)
        simp only [Bool.and_eq_true, Bool.not_eq_true', Bool.and_eq_false_iff, beq_eq_false_iff_ne, ne_eq]
        refine ⟨Ne.symm hik, Ne.symm hi1, ?_⟩
        by_cases h1 : k + 1 = i
        · right
          rw [am_ct_cv]
          exact fun q => b ⟨h1, q⟩
        · left; exact h1
  · cases hkv
theorem am_okL_st1 {L : am_L} {i : Nat} {v : am_V} (h : am_okL L) (hv : am_okv v) : am_okL (am_st1 L i v) := by
  intro k w hw
  by_cases hik : i = k
  · subst hik
    have hl := (List.getElem?_eq_some_iff.mp hw).1
    rw [am_st1, List.length_set] at hl
    rw [am_st1, List.getElem?_set_self hl] at hw
    rw [← Option.some.inj (Option.some.inj hw)]
    exact hv
  · rw [am_st1, List.getElem?_set_ne hik] at hw
    exact h k w (am_cl_at hw).1
theorem am_okL_st2 {L : am_L} {i : Nat} {v : am_V} (h : am_okL L) (hv : am_okv v) : am_okL (am_st2 L i v) := by
  intro k w hw
  by_cases hi1 : i + 1 = k
  · subst hi1
    have hl := (List.getElem?_eq_some_iff.mp hw).1
    rw [am_st2, List.length_set] at hl
    rw [am_st2, List.getElem?_set_self hl] at hw
    cases hw
  · rw [am_st2, List.getElem?_set_ne hi1] at hw
    by_cases hik : i = k
    · subst hik
      have hl := (List.getElem?_eq_some_iff.mp hw).1
      rw [List.length_set] at hl
      rw [List.getElem?_set_self hl] at hw
      rw [← Option.some.inj (Option.some.inj hw)]
      exact hv
    · rw [List.getElem?_set_ne hik] at hw
      exact h k w (am_cl_at hw).1
theorem am_ld_ok {L : am_L} {k : Nat} {v : am_V} (h : am_okL L) (hk : am_ld L k = some v) : am_okv v := by
  unfold am_ld at hk
  split at hk
  · rename_i w hw
    rw [← Option.some.inj hk]
    exact h k w hw
  · cases hk
theorem am_ok0 : am_okS [] := fun v h => by cases h
theorem am_okc {v : am_V} {S : List am_V} (hv : am_okv v) (h : am_okS S) : am_okS (v :: S) := fun w hw => (List.mem_cons.mp hw).elim (fun e => by rw [e]; exact hv) (h w)
theorem am_oki {v : Int} {S : List am_V} (hv : am_r4 v) (h : am_okS S) : am_okS (.inl v :: S) := am_okc (v := .inl v) hv h
theorem am_okj {v : Int} {S : List am_V} (hv : am_r8 v) (h : am_okS S) : am_okS (.inr (.inl v) :: S) := am_okc (v := .inr (.inl v)) hv h
theorem am_okr {v : Option Nat} {S : List am_V} (h : am_okS S) : am_okS (.inr (.inr v) :: S) := am_okc (v := .inr (.inr v)) trivial h
theorem am_okt {v : am_V} {S : List am_V} (h : am_okS (v :: S)) : am_okS S := fun w hw => h w (List.mem_cons_of_mem _ hw)
theorem am_okd {v : am_V} {S : List am_V} (h : am_okS (v :: S)) : am_okv v := h v List.mem_cons_self
def am_at (p : Program) (l : Launch) (e : Env) (R : Room) (s : State) (m : MethodId) (args : Array Value) (below : List Frame) (meth : Method) (c : Code) (Q : State → Prop) (D : va_G) (base : Nat) (xa : Nat → Nat) (cA : Nat → ClassId) (x : am_H) (nL n0 s0 : Nat) (pc : Nat) (L : am_L) (S : List am_V) (h : am_H) : Prop :=
  am_okL L → am_okS S → am_okh x h → ∀ (H : Heap) (locs : List Loc) (ls : Array Slot) (cells slots : Nat), va_P D vwCl (am_ws base (am_ad base xa) cA h) H → va_S (fun q => base ≤ q) s.heap H locs → am_lh (am_ad base xa) ls nL L → cells + n0 = h.1.1 → slots + s0 = h.1.2.1 → W p l e R s m args below meth c H locs cells slots Q (F0 m pc ls (S.map (am_cv (am_ad base xa))))
/-- what holds in a method's body all along; the rest (what was there) comes with the instructions that need it -/
def am_cx (p : Program) (s : State) (m : MethodId) (args : Array Value) (c : Code) (D : va_G) (base : Nat) (xa : Nat → Nat) (cA : Nat → ClassId) (x : am_H) (cc : ByteArray) (nL n0 : Nat) (own : String) : Prop :=
  p.tables.exec = Jvm.exec ∧ c.code = cc ∧ c.maxLocals = nL ∧ s.vm.findClass own = some m.cls ∧ (∀ w ∈ am_T, w.before args s = true) ∧ va_K D vwCl (am_tys cA) s ∧ s.heap.size = base + n0 ∧ am_ext x
section AMA
variable {p : Program} {l : Launch} {e : Env} {R : Room} {s : State} {m : MethodId} {args : Array Value} {below : List Frame} {meth : Method} {c : Code} {Q : State → Prop} {D : va_G} {base : Nat} {xa : Nat → Nat} {cA : Nat → ClassId} {x : am_H} {nL n0 s0 : Nat} {cc : ByteArray} {own : String}
/-- a step that moves neither heap nor locals -/
theorem am_pure {pc pc' : Nat} {L : am_L} {S S' : List am_V} {h : am_H} (ok : am_okL L → am_okS S → am_okh x h → am_okS S')
    (st : am_okL L → am_okS S → am_okh x h → ∀ (H : Heap) (locs : List Loc) (ls : Array Slot) (cells slots : Nat), am_lh (am_ad base xa) ls nL L → W p l e R s m args below meth c H locs cells slots Q (F0 m pc' ls (S'.map (am_cv (am_ad base xa)))) → W p l e R s m args below meth c H locs cells slots Q (F0 m pc ls (S.map (am_cv (am_ad base xa)))))
    (k : am_at p l e R s m args below meth c Q D base xa cA x nL n0 s0 pc' L S' h) : am_at p l e R s m args below meth c Q D base xa cA x nL n0 s0 pc L S h :=
  fun o1 o2 o3 H locs ls cells slots hP hS hl hc hs => st o1 o2 o3 H locs ls cells slots hl (k o1 (ok o1 o2 o3) o3 H locs ls cells slots hP hS hl hc hs)
theorem am_pureS {pc pc' : Nat} {L : am_L} {S S' : List am_V} {h : am_H} (ok : am_okS S → am_okS S')
    (st : am_okS S → ∀ (H : Heap) (locs : List Loc) (ls : Array Slot) (cells slots : Nat), W p l e R s m args below meth c H locs cells slots Q (F0 m pc' ls (S'.map (am_cv (am_ad base xa)))) → W p l e R s m args below meth c H locs cells slots Q (F0 m pc ls (S.map (am_cv (am_ad base xa)))))
    (k : am_at p l e R s m args below meth c Q D base xa cA x nL n0 s0 pc' L S' h) : am_at p l e R s m args below meth c Q D base xa cA x nL n0 s0 pc L S h :=
  am_pure (fun _ o _ => ok o) (fun _ o _ H locs ls cells slots _ kk => st o H locs ls cells slots kk) k
end AMA
