/-- the kinds of the fields by class: 0 an int, 1 a long, 2 a reference -/
def am_fk (ci : Nat) : List Nat := ([[2, 2, 2, 2, 2], [2, 2, 2, 2, 0, 2, 2, 2, 2, 2, 0, 2, 2, 0, 2, 2, 0, 0], [2, 2, 2], [2, 2], [2, 2, 2, 0, 0], [2, 2, 2, 2, 2, 0, 0, 0], [2, 2, 2, 2, 0], [2, 2, 0, 0, 0], [2, 2, 2, 0], [2, 2, 2, 2, 2, 0, 2, 0], [2, 0, 0, 0, 0], [2, 2, 2, 2, 2, 2, 2, 2, 2, 2, 2, 2, 2, 0, 0, 0, 0], [0, 0, 2, 2, 2, 2, 2, 2, 0, 2, 2, 0, 2, 0, 0, 0, 0, 1, 0, 0, 0, 0, 2, 0, 2, 2, 0, 2, 2, 0, 0, 2, 2, 2, 0, 2, 2, 2, 0, 1, 1, 2, 2, 2, 2, 2, 2, 2, 2, 2, 2, 0, 0, 0, 0, 1, 2, 0, 0]] : List (List Nat)).getD ci []
theorem am_fk_len : ∀ ci, ci < 13 → (am_fk ci).length = am_nf ci := by decide +kernel
/-- a cell's address: below 64 one that was there -/
def am_ad (base : Nat) (xa : Nat → Nat) (q : Nat) : Nat := if q < 64 then xa q else base + (q - 64)
def am_cv (ad : Nat → Nat) (v : am_V) : Value := match v with
  | .inl x => .int (Int32.ofInt x)
  | .inr (.inl x) => .long (Int64.ofInt x)
  | .inr (.inr q) => va_rf (q.map ad)
def am_fv (ad : Nat → Nat) (kd : Nat) (x : Int) (q : Option Nat) : Value := match kd with
  | 1 => .long (Int64.ofInt x)
  | 2 => va_rf (q.map ad)
  | _ => .int (Int32.ofInt x)
def am_ac (ad : Nat → Nat) (t : Nat) (f : Nat → Int) (g : Nat → Option Nat) : (Nat → Int32) ⊕ (Nat → Int64) ⊕ (Nat → UInt32) ⊕ (Nat → UInt64) ⊕ (Nat → Option Nat) := match t with
  | 3 => .inr (.inl (fun j => Int64.ofInt (f j)))
  | 4 => .inr (.inr (.inr (.inr (fun j => (g j).map ad))))
  | 5 => .inr (.inr (.inr (.inr (fun j => (g j).map ad))))
  | _ => .inl (fun j => Int32.ofInt (f j))
def am_ce (ad : Nat → Nat) (cA : Nat → ClassId) (s : (Nat × Nat) ⊕ Nat) (f : Nat → Int) (g : Nat → Option Nat) : va_E := match s with
  | .inl (t, n) => .inl (cA t, n, am_ac ad t f g)
  | .inr ci => .inr (ci, (List.range (am_nf ci)).map (fun k => am_fv ad ((am_fk ci).getD k 0) (f k) (g k)))
def am_ws (base : Nat) (ad : Nat → Nat) (cA : Nat → ClassId) (h : am_H) : va_W := (List.range h.1.1).map (fun i => (base + i, am_ce ad cA (h.1.2.2 (64 + i)) (h.2.1 (64 + i)) (h.2.2 (64 + i))))
theorem am_ws_len {base : Nat} {ad : Nat → Nat} {cA : Nat → ClassId} {h : am_H} : (am_ws base ad cA h).length = h.1.1 := by simp [am_ws]
theorem am_ws_get {base : Nat} {ad : Nat → Nat} {cA : Nat → ClassId} {h : am_H} {i : Nat} (hi : i < h.1.1) : (am_ws base ad cA h)[i]? = some (base + i, am_ce ad cA (h.1.2.2 (64 + i)) (h.2.1 (64 + i)) (h.2.2 (64 + i))) := by
  simp [am_ws, hi]
theorem am_ws_at {base : Nat} {xa : Nat → Nat} {cA : Nat → ClassId} {h : am_H} {q : Nat} (h1 : 64 ≤ q) (h2 : q < 64 + h.1.1) : (am_ws base (am_ad base xa) cA h)[q - 64]? = some (am_ad base xa q, am_ce (am_ad base xa) cA (h.1.2.2 q) (h.2.1 q) (h.2.2 q)) := by
  rw [am_ws_get (by omega), show 64 + (q - 64) = q by omega]
  unfold am_ad
  rw [if_neg (by omega)]
theorem am_ws_D {base : Nat} {ad : Nat → Nat} {cA : Nat → ClassId} {h : am_H} : va_D (fun q => base ≤ q) (am_ws base ad cA h) := by
  have key : ∀ (i : Nat) (p : Nat × va_E), (am_ws base ad cA h)[i]? = some p → p.1 = base + i := by
    intro i p hp
    have hi : i < h.1.1 := by
      have := (List.getElem?_eq_some_iff.mp hp).1
      rwa [am_ws_len] at this
    rw [am_ws_get hi] at hp
    rw [← Option.some.inj hp]
  refine ⟨fun i j p q h1 h2 e => ?_, fun k q hk => ?_⟩
  · have a := key i p h1
    have b := key j q h2
    omega
  · have a := key k q hk
    show base ≤ q.1
    omega
theorem am_ws_set {base : Nat} {xa : Nat → Nat} {cA : Nat → ClassId} {h h' : am_H} {q : Nat} (h1 : 64 ≤ q) (h2 : q < 64 + h.1.1) (hn : h'.1.1 = h.1.1) (ho : ∀ r, r ≠ q → h'.1.2.2 r = h.1.2.2 r ∧ h'.2.1 r = h.2.1 r ∧ h'.2.2 r = h.2.2 r) {e : va_E} (he : e = am_ce (am_ad base xa) cA (h'.1.2.2 q) (h'.2.1 q) (h'.2.2 q)) :
    (am_ws base (am_ad base xa) cA h).set (q - 64) (am_ad base xa q, e) = am_ws base (am_ad base xa) cA h' := by
  apply List.ext_getElem?
  intro i
  by_cases hi : i < h.1.1
  · rw [am_ws_get (by rw [hn]; exact hi)]
    by_cases hq : i = q - 64
    · subst hq
      rw [List.getElem?_set_self (by rw [am_ws_len]; exact hi), he, show 64 + (q - 64) = q by omega]
      unfold am_ad
      rw [if_neg (by omega)]
    · rw [List.getElem?_set_ne (Ne.symm hq), am_ws_get hi]
      obtain ⟨a, b, c⟩ := ho (64 + i) (by omega)
      rw [a, b, c]
  · rw [List.getElem?_eq_none (by rw [List.length_set, am_ws_len]; omega), List.getElem?_eq_none (by rw [am_ws_len, hn]; omega)]
theorem am_ws_mk {base : Nat} {ad : Nat → Nat} {cA : Nat → ClassId} {h : am_H} {s : (Nat × Nat) ⊕ Nat} {n : Nat} {e : va_E} (he : e = am_ce ad cA s (fun _ => 0) (fun _ => none)) : am_ws base ad cA (am_mk h s n) = am_ws base ad cA h ++ [(base + h.1.1, e)] := by
  subst he
  show (List.range (h.1.1 + 1)).map _ = _
  rw [List.range_succ, List.map_append]
  congr 1
  · apply List.map_congr_left
    intro i hi
    have hi : i < h.1.1 := List.mem_range.mp hi
    have hne : ¬ 64 + i = 64 + h.1.1 := by omega
    simp only [am_mk, am_u1, hne, if_false]
  · simp [am_mk, am_u1]
def am_r4 (x : Int) : Prop := -2147483648 ≤ x ∧ x ≤ 2147483647
def am_r8 (x : Int) : Prop := -9223372036854775808 ≤ x ∧ x ≤ 9223372036854775807
def am_okv (v : am_V) : Prop := match v with
  | .inl x => am_r4 x
  | .inr (.inl x) => am_r8 x
  | _ => True
def am_okL (L : am_L) : Prop := ∀ (k : Nat) (v : am_V), L[k]? = some (some v) → am_okv v
def am_okS (S : List am_V) : Prop := ∀ v ∈ S, am_okv v
def am_k4 (s : (Nat × Nat) ⊕ Nat) (j : Nat) : Prop := match s with
  | .inl (t, _) => t ≠ 3
  | .inr ci => (am_fk ci).getD j 0 ≠ 1
/-- a heap that can be: what is out of it has no shape; what was there is as it was; numbers in their ranges -/
def am_okh (x : am_H) (h : am_H) : Prop :=
  (∀ q, 64 + h.1.1 ≤ q → h.1.2.2 q = .inr 99) ∧ (∀ q, q < 64 → h.1.2.2 q = x.1.2.2 q ∧ h.2.1 q = x.2.1 q) ∧
  (∀ q j, am_r8 (h.2.1 q j) ∧ (am_k4 (h.1.2.2 q) j → am_r4 (h.2.1 q j))) ∧ (∀ q t n, h.1.2.2 q = .inl (t, n) → n ≤ 100000 ∧ (64 ≤ q → t ≤ 5)) ∧ (∀ q c, 64 ≤ q → q < 64 + h.1.1 → h.1.2.2 q = .inr c → c < 13)
/-- what was there before: arrays of ints (7), texts (8), nothing else -/
def am_ext (x : am_H) : Prop := ∀ q, q < 64 → x.1.2.2 q = .inr 99 ∨ ∃ n, x.1.2.2 q = .inl (7, n) ∨ x.1.2.2 q = .inl (8, n)
theorem am_r4_8 {x : Int} (h : am_r4 x) : am_r8 x := ⟨by have := h.1; omega, by have := h.2; omega⟩
theorem am_r4_to (z : Int32) : am_r4 z.toInt := ⟨Int32.le_toInt z, by have := Int32.toInt_lt z; omega⟩
theorem am_r8_to (z : Int64) : am_r8 z.toInt := ⟨Int64.le_toInt z, by have := Int64.toInt_lt z; omega⟩
theorem am_of4 {x : Int} (h : am_r4 x) : (Int32.ofInt x).toInt = x := Int32.toInt_ofInt_of_le h.1 (by have := h.2; omega)
theorem am_of8 {x : Int} (h : am_r8 x) : (Int64.ofInt x).toInt = x := Int64.toInt_ofInt_of_le h.1 (by have := h.2; omega)
theorem am_lt4 {a b : Int} (ha : am_r4 a) (hb : am_r4 b) : Int32.ofInt a < Int32.ofInt b ↔ a < b := by rw [Int32.lt_iff_toInt_lt, am_of4 ha, am_of4 hb]
theorem am_le4 {a b : Int} (ha : am_r4 a) (hb : am_r4 b) : Int32.ofInt a ≤ Int32.ofInt b ↔ a ≤ b := by rw [Int32.le_iff_toInt_le, am_of4 ha, am_of4 hb]
theorem am_eq4 {a b : Int} (ha : am_r4 a) (hb : am_r4 b) : Int32.ofInt a = Int32.ofInt b ↔ a = b := by
  constructor
  · intro h
    have := congrArg Int32.toInt h
    rwa [am_of4 ha, am_of4 hb] at this
  · intro h; rw [h]
theorem am_eq8 {a b : Int} (ha : am_r8 a) (hb : am_r8 b) : Int64.ofInt a = Int64.ofInt b ↔ a = b := by
  constructor
  · intro h
    have := congrArg Int64.toInt h
    rwa [am_of8 ha, am_of8 hb] at this
  · intro h; rw [h]
theorem am_lt8 {a b : Int} (ha : am_r8 a) (hb : am_r8 b) : Int64.ofInt a < Int64.ofInt b ↔ a < b := by rw [Int64.lt_iff_toInt_lt, am_of8 ha, am_of8 hb]
theorem am_clamp {a : Int} (ha : am_r4 a) : (Int32.ofInt a).toNatClampNeg = a.toNat := by
  show (Int32.ofInt a).toInt.toNat = _
  rw [am_of4 ha]
theorem am_in {a : Int} {n : Nat} (ha : am_r4 a) (h0 : 0 ≤ a) (h1 : a < (n : Int)) : vp_in (Int32.ofInt a) n := by
  rw [vp_in_iff, am_of4 ha]
  exact ⟨h0, h1⟩
theorem am_of_toInt (z : Int32) : Int32.ofInt z.toInt = z := Int32.ofInt_toInt z
theorem am_of_toInt8 (z : Int64) : Int64.ofInt z.toInt = z := Int64.ofInt_toInt z
theorem am_ct_cv {ad : Nat → Nat} (v : am_V) : (am_cv ad v).category = am_ct v := by
  match v with
  | .inl x => rfl
  | .inr (.inl x) => rfl
  | .inr (.inr none) => rfl
  | .inr (.inr (some q)) => rfl
theorem am_sz_cv {ad : Nat → Nat} (S : List am_V) : ((S.map (am_cv ad)).map fun v => v.category).sum = am_sz S := by
  unfold am_sz
  rw [List.map_map]
  congr 1
  apply List.map_congr_left
  intro v _
  exact am_ct_cv v
