/-! ===== the program is the code: a check that the kernel runs ===== -/
def am_dq (cc : ByteArray) (pc nx : Nat) (i : Instr) (len : Nat) : Bool := decide (decode cc pc = .ok (i, len)) && decide (nx = pc + len)
def am_f4 (k : Nat) (i : Fin 4 → Instr) (cc : ByteArray) (pc nx : Nat) : Bool := if h : k < 4 then am_dq cc pc nx (i ⟨k, h⟩) 1 else false
def am_ld2 (k : Nat) (i : Nat → Instr) (j : Fin 4 → Instr) (cc : ByteArray) (pc nx : Nat) : Bool := am_dq cc pc nx (i k) 2 || am_f4 k j cc pc nx
def am_jq (cc : ByteArray) (pc t f : Nat) (i : Int → Instr) : Bool := decide (decode cc pc = .ok (i ((t : Int) - pc), 3)) && decide (f = pc + 3)
def am_sw (cc : ByteArray) (pc : Nat) (d : Int) (lo hi : Int) (ts : List Int) : Bool := match decode cc pc with
  | .ok (.tableswitch d' lo' hi' ts', _) => decide (d' = d ∧ lo' = lo ∧ hi' = hi ∧ ts'.toList = ts)
  | _ => false
def am_fr (ci k : Nat) (own : String) (ini : Bool) : Bool := !(am_TN ci k).2.2.2 || (ini && decide ((am_TN ci k).1 = own))
def am_gb (cn : Nat) (cc : ByteArray) (rt : Option FieldType) (ini : Bool) (bp : Nat → Nat) (nx : Nat) (i : am_I) : Bool := match i with
  | (op, pc, c, ns) => match op with
    | 0 => decide (-2147483648 ≤ c ∧ c ≤ 2147483647) && (am_dq cc pc nx (.iconst c) 1 || (am_dq cc pc nx (.bipush c) 2 && decide ((Int8.ofInt c).toInt32 = Int32.ofInt c)) || (am_dq cc pc nx (.sipush c) 3 && decide ((Int16.ofInt c).toInt32 = Int32.ofInt c)) || (match ns with
      | [k] => decide ((cn, k, c) ∈ am_KI) && (am_dq cc pc nx (.ldc k) 2 || am_dq cc pc nx (.ldc_w k) 3)
      | _ => false))
    | 1 => decide (-9223372036854775808 ≤ c ∧ c ≤ 9223372036854775807) && ((decide (c = 0) && am_dq cc pc nx (.lconst 0) 1) || (decide (c = 1) && am_dq cc pc nx (.lconst 1) 1) || (match ns with
      | [k] => decide ((cn, k, c) ∈ am_KL) && am_dq cc pc nx (.ldc2_w k) 3
      | _ => false))
    | 2 => am_dq cc pc nx .aconst_null 1
    | 3 => match ns with
      | [q, k] => (decide ((cn, k, q) ∈ am_SN) && decide (q < 64) && am_dq cc pc nx (.ldc k) 2) || (decide (q = 1 ∨ q = 2) && am_dq cc pc nx (.getstatic k) 3 && (decide ((cn, k, q) ∈ am_GS) || decide ((cn, k, q) ∈ am_GN)))
      | _ => false
    | 4 => match ns with
      | [k] => am_ld2 k .iload .iload_n cc pc nx
      | _ => false
    | 5 => match ns with
      | [k] => am_ld2 k .lload .lload_n cc pc nx
      | _ => false
    | 6 => match ns with
      | [k] => am_ld2 k .aload .aload_n cc pc nx
      | _ => false
    | 7 => match ns with
      | [k] => am_ld2 k .istore .istore_n cc pc nx
      | _ => false
    | 8 => match ns with
      | [k] => am_ld2 k .lstore .lstore_n cc pc nx
      | _ => false
    | 9 => match ns with
      | [k] => am_ld2 k .astore .astore_n cc pc nx
      | _ => false
    | 10 => match ns with
      | [k] => am_dq cc pc nx (.iinc k c) 3
      | _ => false
    | 11 => match ns with
      | [o] => decide (o ≤ 8) && am_dq cc pc nx (am_ib o) 1
      | _ => false
    | 12 => match ns with
      | [o] => decide (o ≤ 1) && am_dq cc pc nx (if o = 0 then .idiv else .irem) 1
      | _ => false
    | 14 => am_dq cc pc nx .ineg 1
    | 15 => match ns with
      | [o] => decide (o ≤ 2) && am_dq cc pc nx (am_lb o) 1
      | _ => false
    | 16 => match ns with
      | [o] => decide (o ≤ 1) && am_dq cc pc nx (if o = 0 then .ldiv else .lrem) 1
      | _ => false
    | 18 => am_dq cc pc nx .lcmp 1
    | 19 => am_dq cc pc nx .i2l 1
    | 20 => am_dq cc pc nx .l2i 1
    | 21 => am_dq cc pc nx .i2b 1
    | 22 => am_dq cc pc nx .dup 1
    | 23 => am_dq cc pc nx .dup2 1
    | 24 => am_dq cc pc nx .pop 1
    | 25 => match ns with
      | [o, t, f] => am_jq cc pc (bp t) (bp f) (.ifCond (am_cn o))
      | _ => false
    | 26 => match ns with
      | [o, t, f] => am_jq cc pc (bp t) (bp f) (.if_icmp (am_cn o))
      | _ => false
    | 27 => match ns with
      | [t, f] => am_jq cc pc (bp t) (bp f) .ifnonnull
      | _ => false
    | 28 => match ns with
      | [b] => decide (decode cc pc = .ok (.goto ((bp b : Int) - pc), 3))
      | _ => false
    | 29 => match ns with
      | d :: ts => am_sw cc pc ((bp d : Int) - pc) c (c + (ts.length : Int) - 1) ((ts.map bp).map (fun t : Nat => (t : Int) - pc))
      | _ => false
    | 30 => am_dq cc pc nx .iaload 1
    | 31 => match ns with
      | [t] => decide (t = 1 ∨ t = 2) && am_dq cc pc nx .baload 1
      | _ => false
    | 32 => am_dq cc pc nx .laload 1
    | 33 => match ns with
      | [t] => decide (t = 4 ∨ t = 5) && am_dq cc pc nx .aaload 1
      | _ => false
    | 34 => am_dq cc pc nx .iastore 1
    | 35 => match ns with
      | [t] => decide (t = 1 ∨ t = 2) && am_dq cc pc nx .bastore 1
      | _ => false
    | 36 => am_dq cc pc nx .lastore 1
    | 37 => match ns with
      | [t, ci] => decide ((t = 4 ∧ ci = 9) ∨ (t = 5 ∧ ci = 1)) && am_dq cc pc nx .aastore 1
      | _ => false
    | 38 => am_dq cc pc nx .arraylength 1
    | 39 => match ns with
      | [t, k] => (decide (t = 0) && am_dq cc pc nx (.newarray .int) 2) || (decide (t = 1) && am_dq cc pc nx (.newarray .byte) 2) || (decide (t = 2) && am_dq cc pc nx (.newarray .boolean) 2) || (decide (t = 3) && am_dq cc pc nx (.newarray .long) 2) || (decide (t = 4) && decide ((cn, k, 9) ∈ am_CK) && am_dq cc pc nx (.anewarray k) 3) || (decide (t = 5) && decide ((cn, k, 1) ∈ am_CK) && am_dq cc pc nx (.anewarray k) 3)
      | _ => false
    | 41 => match ns with
      | [ci, k, kd, j] => decide (ci < 13 ∧ k < am_nf ci ∧ kd = (am_fk ci).getD k 0) && decide ((cn, j, ci, k) ∈ am_FT) && am_dq cc pc nx (.getfield j) 3
      | _ => false
    | 42 => match ns with
      | [ci, k, kd, j] => decide (ci < 13 ∧ k < am_nf ci) && decide ((cn, j, ci, k) ∈ am_FT) && am_dq cc pc nx (.putfield j) 3 && am_fr ci k (am_ON cn) ini && ((decide (kd = 0) && decide (am_tN ci k = .int ∧ (am_fk ci).getD k 0 = 0)) || (decide (kd = 3) && decide (am_tN ci k = .boolean ∧ (am_fk ci).getD k 0 = 0)) || (decide (kd = 1) && decide (am_tN ci k = .long ∧ (am_fk ci).getD k 0 = 1)) || (decide (kd = 2) && decide ((am_fk ci).getD k 0 = 2) && (match am_tN ci k with
        | .object _ => true
        | .array _ => true
        | _ => false)))
      | _ => false
    | 44 => match ns with
      | [ci, k] => decide (ci < 13) && decide ((cn, k, ci) ∈ am_CK) && decide (ci ∈ am_IN ∧ ci ∈ am_IZ) && am_dq cc pc nx (.new k) 3
      | _ => false
    | 45 => match ns with
      | [y, n, k] => decide (y < 288 ∧ n = am_np y) && decide (y ∈ am_ST) && (decide ((cn, k, y) ∈ am_ML) || decide ((cn, k, y) ∈ am_MN)) && am_dq cc pc nx (.invokestatic k) 3
      | _ => false
    | 46 => match ns with
      | [y, n, ci, k] => decide (y < 288 ∧ n = am_np y + 1 ∧ ci < 13 ∧ ci = am_kn y) && decide (y ∈ am_IM) && ((decide (y ∈ am_SV) && decide ((cn, k, y) ∈ am_ML) && am_dq cc pc nx (.invokevirtual k) 3) || (decide ((am_yN y).name = "<init>" ∧ am_rN y = none) && (decide ((cn, k, y) ∈ am_ML) || decide ((cn, k, y) ∈ am_MN)) && am_dq cc pc nx (.invokespecial k) 3))
      | _ => false
    | 47 => match ns with
      | [k] => decide ((cn, k) ∈ am_OI) && am_dq cc pc nx (.invokespecial k) 3
      | _ => false
    | 48 => match ns with
      | [o, k] => ((decide (o = 0) && decide ((cn, k) ∈ am_MX)) || (decide (o = 1) && decide ((cn, k) ∈ am_MI))) && am_dq cc pc nx (.invokestatic k) 3
      | _ => false
    | 50 => match ns with
      | [k] => decide ((cn, k) ∈ am_SL) && am_dq cc pc nx (.invokevirtual k) 3
      | _ => false
    | 51 => match ns with
      | [k] => decide ((cn, k) ∈ am_SC) && am_dq cc pc nx (.invokevirtual k) 3
      | _ => false
    | 52 => match ns with
      | [k] => decide ((cn, k) ∈ am_AC) && am_dq cc pc nx (.invokestatic k) 3
      | _ => false
    | 53 => decide (rt = some .int) && decide (decode cc pc = .ok (.ireturn, 1))
    | 54 => decide (rt = some .long) && decide (decode cc pc = .ok (.lreturn, 1))
    | 55 => (match rt with
      | some (.object _) => true
      | _ => false) && decide (decode cc pc = .ok (.areturn, 1))
    | 56 => decide (rt = none) && decide (decode cc pc = .ok (.return_, 1))
    | 57 => decide (rt = some .boolean) && decide (decode cc pc = .ok (.ireturn, 1))
    | 58 => match ns with
      | [b] => decide (bp b = pc)
      | _ => false
    | _ => false
def am_hd (is : List am_I) : Nat := match is with
  | i :: _ => i.2.1
  | [] => 0
def am_ckL (cn : Nat) (cc : ByteArray) (rt : Option FieldType) (ini : Bool) (bp : Nat → Nat) : List am_I → Bool
  | [] => true
  | i :: is => am_gb cn cc rt ini bp (am_hd is) i && am_ckL cn cc rt ini bp is
def am_ck (cn : Nat) (cc : ByteArray) (rt : Option FieldType) (ini : Bool) (Bs : List (List am_I)) : Bool := Bs.all (am_ckL cn cc rt ini (fun b => am_hd (Bs.getD b [])))
theorem am_ck_at {cn : Nat} {cc : ByteArray} {rt : Option FieldType} {ini : Bool} {Bs : List (List am_I)} (h : am_ck cn cc rt ini Bs = true) (b : Nat) : am_ckL cn cc rt ini (fun b => am_hd (Bs.getD b [])) (Bs.getD b []) = true := by
  rw [List.getD_eq_getElem?_getD]
  cases hb : Bs[b]? with
  | none => rfl
  | some is => exact List.all_eq_true.mp h is (List.mem_of_getElem? hb)
theorem am_dq_of {cc : ByteArray} {pc nx : Nat} {i : Instr} {len : Nat} (h : am_dq cc pc nx i len = true) : am_dc cc pc nx i len := by
  unfold am_dq at h
  rw [Bool.and_eq_true] at h
  exact ⟨of_decide_eq_true h.1, of_decide_eq_true h.2⟩
theorem am_ld2_of {k : Nat} {i : Nat → Instr} {j : Fin 4 → Instr} {cc : ByteArray} {pc nx : Nat} (h : am_ld2 k i j cc pc nx = true) : am_dc cc pc nx (i k) 2 ∨ ∃ f : Fin 4, (f : Nat) = k ∧ am_dc cc pc nx (j f) 1 := by
  unfold am_ld2 am_f4 at h
  rw [Bool.or_eq_true] at h
  rcases h with h | h
  · exact Or.inl (am_dq_of h)
  · split at h
    · rename_i hk
      exact Or.inr ⟨⟨k, hk⟩, rfl, am_dq_of h⟩
    · cases h
theorem am_jq_of {cc : ByteArray} {pc t f : Nat} {i : Int → Instr} (h : am_jq cc pc t f i = true) : am_jc cc pc t f i := by
  unfold am_jq at h
  rw [Bool.and_eq_true] at h
  exact ⟨of_decide_eq_true h.1, of_decide_eq_true h.2⟩
theorem am_sw_of {cc : ByteArray} {pc : Nat} {d lo hi : Int} {ts : List Int} (h : am_sw cc pc d lo hi ts = true) : ∃ len, decode cc pc = .ok (.tableswitch d lo hi ts.toArray, len) := by
  unfold am_sw at h
  split at h
  · rename_i d' lo' hi' ts' len e
    obtain ⟨rfl, rfl, rfl, rfl⟩ := of_decide_eq_true h
    exact ⟨len, e⟩
  · cases h
theorem am_fr_of {ci k : Nat} {own : String} {ini : Bool} (h : am_fr ci k own ini = true) : (am_TN ci k).2.2.2 = false ∨ ((am_TN ci k).2.2.2 = true ∧ ini = true ∧ (am_TN ci k).1 = own) := by
  unfold am_fr at h
  rw [Bool.or_eq_true] at h
  rcases h with h | h
  · left
    rwa [Bool.not_eq_true'] at h
  · rw [Bool.and_eq_true] at h
    cases hb : (am_TN ci k).2.2.2 with
    | false => exact Or.inl rfl
    | true => exact Or.inr ⟨rfl, h.1, of_decide_eq_true h.2⟩
