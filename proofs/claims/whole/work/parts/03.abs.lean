/-! ===== THE ABSTRACT MACHINE: ints and longs are Ints, a reference is a number of a cell (below 64: what was there before and is never written); a method is a list of blocks of numbered instructions ===== -/
abbrev am_V : Type := Int ⊕ Int ⊕ Option Nat
abbrev am_i (x : Int) : am_V := Sum.inl x
abbrev am_l (x : Int) : am_V := Sum.inr (Sum.inl x)
abbrev am_r (q : Option Nat) : am_V := Sum.inr (Sum.inr q)
/-- cells, slots, the shape of each cell: an array (type, length) or an object (class) -/
abbrev am_G : Type := Nat × Nat × (Nat → (Nat × Nat) ⊕ Nat)
abbrev am_H : Type := am_G × (Nat → Nat → Int) × (Nat → Nat → Option Nat)
/-- operation, place, a number, places -/
abbrev am_I : Type := Nat × Nat × Int × List Nat
abbrev am_L : Type := List (Option am_V)
abbrev am_O : Type := Option am_V × am_H
abbrev am_R : Type := Option (am_O ⊕ (Option Nat × am_L × List am_V × am_H))
def am_u1 {α : Type} (f : Nat → α) (i : Nat) (v : α) : Nat → α := fun j => if j = i then v else f j
def am_u2 {α : Type} (f : Nat → Nat → α) (a i : Nat) (v : α) : Nat → Nat → α := am_u1 f a (am_u1 (f a) i v)
def am_cp (f g : Nat → Int) (sp dp n : Nat) : Nat → Int := fun j => if dp ≤ j ∧ j < dp + n then f (sp + (j - dp)) else g j
def am_nx (L : am_L) (S : List am_V) (h : am_H) : am_R := some (.inr (none, L, S, h))
def am_jp (b : Nat) (L : am_L) (S : List am_V) (h : am_H) : am_R := some (.inr (some b, L, S, h))
def am_rt (v : Option am_V) (h : am_H) : am_R := some (.inl (v, h))
def am_ld (L : am_L) (k : Nat) : Option am_V := match L[k]? with
  | some (some v) => some v
  | _ => none
def am_cl (L : am_L) : Nat → am_L
  | 0 => L
  | j + 1 => match L[j]? with
    | some (some (.inr (.inl _))) => L.set j none
    | _ => L
def am_st1 (L : am_L) (k : Nat) (v : am_V) : am_L := (am_cl L k).set k (some v)
def am_st2 (L : am_L) (k : Nat) (v : am_V) : am_L := ((am_cl L k).set k (some v)).set (k + 1) none
def am_ct (v : am_V) : Nat := match v with
  | .inr (.inl _) => 2
  | _ => 1
def am_sz (S : List am_V) : Nat := (S.map am_ct).sum
def am_b4 (o : Nat) (a b : Int32) : Int32 := match o with
  | 0 => a + b
  | 1 => a - b
  | 2 => a * b
  | 3 => a &&& b
  | 4 => a ||| b
  | 5 => a ^^^ b
  | 6 => a <<< (b &&& 31)
  | 7 => a >>> (b &&& 31)
  | _ => (a.toUInt32 >>> (b.toUInt32 &&& Int32.toUInt32 31)).toInt32
def am_b2 (o : Nat) (a b : Int) : Int := (am_b4 o (Int32.ofInt a) (Int32.ofInt b)).toInt
def am_b8 (o : Nat) (a b : Int64) : Int64 := match o with
  | 0 => a + b
  | 1 => a - b
  | _ => a * b
def am_b6 (o : Nat) (a b : Int) : Int := (am_b8 o (Int64.ofInt a) (Int64.ofInt b)).toInt
def am_d4 (o : Nat) (a b : Int) : Int := (if o = 0 then Int32.ofInt a / Int32.ofInt b else Int32.ofInt a - Int32.ofInt a / Int32.ofInt b * Int32.ofInt b).toInt
def am_d8 (o : Nat) (a b : Int) : Int := (if o = 0 then Int64.ofInt a / Int64.ofInt b else Int64.ofInt a - Int64.ofInt a / Int64.ofInt b * Int64.ofInt b).toInt
def am_cd (o : Nat) (a b : Int) : Bool := match o with
  | 0 => decide (a = b)
  | 1 => decide (¬ a = b)
  | 2 => decide (a < b)
  | 3 => decide (b ≤ a)
  | 4 => decide (b < a)
  | _ => decide (a ≤ b)
def am_cm (a b : Int) : Int := if b < a then 1 else if a = b then 0 else -1
def am_if (c : Bool) (t f : Nat) (L : am_L) (S : List am_V) (h : am_H) : am_R := am_jp (if c then t else f) L S h
/-- the object classes' numbers of fields -/
def am_nf (ci : Nat) : Nat := [5, 18, 3, 2, 5, 8, 5, 5, 4, 8, 5, 17, 59].getD ci 0
def am_mk (h : am_H) (s : (Nat × Nat) ⊕ Nat) (n : Nat) : am_H :=
  ((h.1.1 + 1, h.1.2.1 + n, am_u1 h.1.2.2 (64 + h.1.1) s), am_u1 h.2.1 (64 + h.1.1) (fun _ => 0), am_u1 h.2.2 (64 + h.1.1) (fun _ => none))
def am_ok (c : Bool) (r : am_R) : am_R := if c then r else none
def am_pk (t q : Nat) (i : Int) (h : am_H) : Bool := match h.1.2.2 q with
  | .inl (t', n) => decide (t' = t ∧ 0 ≤ i ∧ i < (n : Int))
  | _ => false
def am_len (q : Nat) (h : am_H) : Option Nat := match h.1.2.2 q with
  | .inl (t, n) => if t < 8 then some n else none
  | _ => none
def am_ob (ci q : Nat) (h : am_H) : Bool := match h.1.2.2 q with
  | .inr c => decide (c = ci)
  | _ => false
def am_hI (h : am_H) (q k : Nat) (x : Int) : am_H := (h.1, am_u2 h.2.1 q k x, h.2.2)
def am_hP (h : am_H) (q k : Nat) (x : Option Nat) : am_H := (h.1, h.2.1, am_u2 h.2.2 q k x)
def am_hA (h : am_H) (q : Nat) (f : Nat → Int) : am_H := (h.1, am_u1 h.2.1 q f, h.2.2)
def am_by (x : Int) : Int := (Int32.ofInt x).toInt8.toInt32.toInt
def am_gf (kd : Nat) (y : Int) (g : Option Nat) : am_V := match kd with
  | 1 => .inr (.inl y)
  | 2 => .inr (.inr g)
  | _ => .inl y
def am_nb (v : Option Nat) (ci : Nat) (h : am_H) : Bool := match v with
  | none => true
  | some y => am_ob ci y h
/-- a call's answer -/
def am_back (L : am_L) (S : List am_V) (o : Option am_O) : am_R := match o with
  | some (v, h) => am_nx L (v.toList ++ S) h
  | none => none
def am_step (K : Nat → List am_V → am_H → Option am_O) (ins : am_I) (L : am_L) (S : List am_V) (h : am_H) : am_R :=
  match ins with
  | (op, _, c, ns) => match op with
    | 0 => am_nx L (.inl c :: S) h
    | 1 => am_nx L (.inr (.inl c) :: S) h
    | 2 => am_nx L (.inr (.inr none) :: S) h
    | 3 => match ns with
      | [q, _] => am_nx L (.inr (.inr (some q)) :: S) h
      | _ => none
    | 4 => match ns with
      | [k] => match am_ld L k with
        | some (.inl x) => am_nx L (.inl x :: S) h
        | _ => none
      | _ => none
    | 5 => match ns with
      | [k] => match am_ld L k with
        | some (.inr (.inl x)) => am_nx L (.inr (.inl x) :: S) h
        | _ => none
      | _ => none
    | 6 => match ns with
      | [k] => match am_ld L k with
        | some (.inr (.inr x)) => am_nx L (.inr (.inr x) :: S) h
        | _ => none
      | _ => none
    | 7 => match ns, S with
      | [k], .inl x :: S => am_ok (decide (k < L.length)) (am_nx (am_st1 L k (.inl x)) S h)
      | _, _ => none
    | 8 => match ns, S with
      | [k], .inr (.inl x) :: S => am_ok (decide (k + 1 < L.length)) (am_nx (am_st2 L k (.inr (.inl x))) S h)
      | _, _ => none
    | 9 => match ns, S with
      | [k], .inr (.inr x) :: S => am_ok (decide (k < L.length)) (am_nx (am_st1 L k (.inr (.inr x))) S h)
      | _, _ => none
    | 10 => match ns with
      | [k] => match am_ld L k with
        | some (.inl x) => am_nx (am_st1 L k (.inl (am_b2 0 x c))) S h
        | _ => none
      | _ => none
    | 11 => match ns, S with
      | [o], .inl b :: .inl a :: S => am_nx L (.inl (am_b2 o a b) :: S) h
      | _, _ => none
    | 12 => match ns, S with
      | [o], .inl b :: .inl a :: S => am_ok (decide (¬ b = 0)) (am_nx L (.inl (am_d4 o a b) :: S) h)
      | _, _ => none
    | 14 => match S with
      | .inl a :: S => am_nx L (.inl (am_b2 1 0 a) :: S) h
      | _ => none
    | 15 => match ns, S with
      | [o], .inr (.inl b) :: .inr (.inl a) :: S => am_nx L (.inr (.inl (am_b6 o a b)) :: S) h
      | _, _ => none
    | 16 => match ns, S with
      | [o], .inr (.inl b) :: .inr (.inl a) :: S => am_ok (decide (¬ b = 0)) (am_nx L (.inr (.inl (am_d8 o a b)) :: S) h)
      | _, _ => none
    | 18 => match S with
      | .inr (.inl b) :: .inr (.inl a) :: S => am_nx L (.inl (am_cm a b) :: S) h
      | _ => none
    | 19 => match S with
      | .inl a :: S => am_nx L (.inr (.inl a) :: S) h
      | _ => none
    | 20 => match S with
      | .inr (.inl a) :: S => am_nx L (.inl (Int32.ofInt a).toInt :: S) h
      | _ => none
    | 21 => match S with
      | .inl a :: S => am_nx L (.inl (am_by a) :: S) h
      | _ => none
    | 22 => match S with
      | v :: S => am_ok (decide (am_ct v = 1)) (am_nx L (v :: v :: S) h)
      | _ => none
    | 23 => match S with
      | v :: w :: S => am_ok (decide (am_ct v = 1 ∧ am_ct w = 1)) (am_nx L (v :: w :: v :: w :: S) h)
      | _ => none
    | 24 => match S with
      | v :: S => am_ok (decide (am_ct v = 1)) (am_nx L S h)
      | _ => none
    | 25 => match ns, S with
      | [o, t, f], .inl a :: S => am_if (am_cd o a 0) t f L S h
      | _, _ => none
    | 26 => match ns, S with
      | [o, t, f], .inl b :: .inl a :: S => am_if (am_cd o a b) t f L S h
      | _, _ => none
    | 27 => match ns, S with
      | [t, f], .inr (.inr q) :: S => am_if q.isSome t f L S h
      | _, _ => none
    | 28 => match ns with
      | [b] => am_jp b L S h
      | _ => none
    | 29 => match ns, S with
      | d :: ts, .inl x :: S => am_jp (if x < c ∨ c + (ts.length : Int) ≤ x then d else ts.getD (x - c).toNat 0) L S h
      | _, _ => none
    | 30 => match S with
      | .inl i :: .inr (.inr (some q)) :: S => am_ok (am_pk 0 q i h || am_pk 7 q i h) (am_nx L (.inl (h.2.1 q i.toNat) :: S) h)
      | _ => none
    | 31 => match ns, S with
      | [t], .inl i :: .inr (.inr (some q)) :: S => am_ok (am_pk t q i h) (am_nx L (.inl (h.2.1 q i.toNat) :: S) h)
      | _, _ => none
    | 32 => match S with
      | .inl i :: .inr (.inr (some q)) :: S => am_ok (am_pk 3 q i h) (am_nx L (.inr (.inl (h.2.1 q i.toNat)) :: S) h)
      | _ => none
    | 33 => match ns, S with
      | [t], .inl i :: .inr (.inr (some q)) :: S => am_ok (am_pk t q i h) (am_nx L (.inr (.inr (h.2.2 q i.toNat)) :: S) h)
      | _, _ => none
    | 34 => match S with
      | .inl x :: .inl i :: .inr (.inr (some q)) :: S => am_ok (am_pk 0 q i h) (am_nx L S (am_hI h q i.toNat x))
      | _ => none
    | 35 => match ns, S with
      | [t], .inl x :: .inl i :: .inr (.inr (some q)) :: S => am_ok (am_pk t q i h && (decide (t = 1) || decide (x = 0 ∨ x = 1))) (am_nx L S (am_hI h q i.toNat (if t = 1 then am_by x else x)))
      | _, _ => none
    | 36 => match S with
      | .inr (.inl x) :: .inl i :: .inr (.inr (some q)) :: S => am_ok (am_pk 3 q i h) (am_nx L S (am_hI h q i.toNat x))
      | _ => none
    | 37 => match ns, S with
      | [t, ci], .inr (.inr x) :: .inl i :: .inr (.inr (some q)) :: S => am_ok (am_pk t q i h && am_nb x ci h) (am_nx L S (am_hP h q i.toNat x))
      | _, _ => none
    | 38 => match S with
      | .inr (.inr (some q)) :: S => match am_len q h with
        | some n => am_nx L (.inl (n : Int) :: S) h
        | none => none
      | _ => none
    | 39 => match ns, S with
      | [t, _], .inl n :: S => am_ok (decide (0 ≤ n ∧ n ≤ 100000)) (am_nx L (.inr (.inr (some (64 + h.1.1))) :: S) (am_mk h (.inl (t, n.toNat)) n.toNat))
      | _, _ => none
    | 41 => match ns, S with
      | [ci, k, kd, _], .inr (.inr (some q)) :: S => am_ok (am_ob ci q h) (am_nx L (am_gf kd (h.2.1 q k) (h.2.2 q k) :: S) h)
      | _, _ => none
    | 42 => match ns, S with
      | [ci, k, kd, _], .inl x :: .inr (.inr (some q)) :: S => am_ok (am_ob ci q h && (decide (kd = 0) || (decide (kd = 3) && decide (x = 0 ∨ x = 1)))) (am_nx L S (am_hI h q k x))
      | [ci, k, kd, _], .inr (.inl x) :: .inr (.inr (some q)) :: S => am_ok (am_ob ci q h && decide (kd = 1)) (am_nx L S (am_hI h q k x))
      | [ci, k, kd, _], .inr (.inr x) :: .inr (.inr (some q)) :: S => am_ok (am_ob ci q h && decide (kd = 2)) (am_nx L S (am_hP h q k x))
      | _, _ => none
    | 44 => match ns with
      | [ci, _] => am_nx L (.inr (.inr (some (64 + h.1.1))) :: S) (am_mk h (.inr ci) (am_nf ci))
      | _ => none
    | 45 => match ns with
      | [y, n, _] => am_ok (decide (n ≤ S.length ∧ am_sz (S.drop n) ≤ 8)) (am_back L (S.drop n) (K y (S.take n).reverse h))
      | _ => none
    | 46 => match ns with
      | [y, n, ci, _] => match (S.take n).reverse with
        | .inr (.inr (some q)) :: as => am_ok (decide (n ≤ S.length ∧ am_sz (S.drop n) ≤ 8) && am_ob ci q h) (am_back L (S.drop n) (K y (.inr (.inr (some q)) :: as) h))
        | _ => none
      | _ => none
    | 47 => match S with
      | .inr (.inr (some _)) :: S => am_ok (decide (am_sz S ≤ 8)) (am_nx L S h)
      | _ => none
    | 48 => match ns, S with
      | [o, _], .inl b :: .inl a :: S => am_ok (decide (am_sz S ≤ 8)) (am_nx L (.inl (if o = 0 then (if a ≤ b then b else a) else (if a ≤ b then a else b)) :: S) h)
      | _, _ => none
    | 50 => match S with
      | .inr (.inr (some q)) :: S => match h.1.2.2 q with
        | .inl (8, n) => am_ok (decide (am_sz S ≤ 8)) (am_nx L (.inl (n : Int) :: S) h)
        | _ => none
      | _ => none
    | 51 => match S with
      | .inl i :: .inr (.inr (some q)) :: S => am_ok (am_pk 8 q i h && decide (am_sz S ≤ 8)) (am_nx L (.inl (h.2.1 q i.toNat) :: S) h)
      | _ => none
    | 52 => match S with
      | .inl n :: .inl dp :: .inr (.inr (some q1)) :: .inl sp :: .inr (.inr (some q0)) :: S =>
        match h.1.2.2 q0, h.1.2.2 q1 with
        | .inl (0, n0), .inl (0, n1) => am_ok (decide (0 ≤ n ∧ 0 ≤ sp ∧ 0 ≤ dp ∧ sp + n ≤ (n0 : Int) ∧ dp + n ≤ (n1 : Int) ∧ am_sz S ≤ 8)) (am_nx L S (am_hA h q1 (am_cp (h.2.1 q0) (h.2.1 q1) sp.toNat dp.toNat n.toNat)))
        | _, _ => none
      | _ => none
    | 53 => match S with
      | [.inl x] => am_rt (some (.inl x)) h
      | _ => none
    | 54 => match S with
      | [.inr (.inl x)] => am_rt (some (.inr (.inl x))) h
      | _ => none
    | 55 => match S with
      | [.inr (.inr (some q))] => am_rt (some (.inr (.inr (some q)))) h
      | _ => none
    | 56 => match S with
      | [] => am_rt none h
      | _ => none
    | 57 => match S with
      | [.inl x] => am_ok (decide (x = 0 ∨ x = 1)) (am_rt (some (.inl x)) h)
      | _ => none
    | 58 => match ns with
      | [b] => am_jp b L S h
      | _ => none
    | _ => none
def am_run (K : Nat → List am_V → am_H → Option am_O) (B : Nat → List am_I) : Nat → List am_I → am_L → List am_V → am_H → Option am_O
  | 0, _, _, _, _ => none
  | _ + 1, [], _, _, _ => none
  | n + 1, i :: is, L, S, h => match am_step K i L S h with
    | none => none
    | some (.inl o) => some o
    | some (.inr (none, L', S', h')) => am_run K B n is L' S' h'
    | some (.inr (some b, L', S', h')) => am_run K B n (B b) L' S' h'
theorem am_run_more {K : Nat → List am_V → am_H → Option am_O} {B : Nat → List am_I} : ∀ (n k : Nat) (is : List am_I) (L : am_L) (S : List am_V) (h : am_H) (o : am_O), am_run K B n is L S h = some o → am_run K B (n + k) is L S h = some o
  | 0, _, _, _, _, _, _, e => by simp [am_run] at e
  | n + 1, k, [], L, S, h, o, e => by simp [am_run] at e
  | n + 1, k, i :: is, L, S, h, o, e => by
    rw [show n + 1 + k = (n + k) + 1 by omega]
    rw [am_run] at e ⊢
    split at e
    · cases e
    · rename_i e1
      try rw [e1]
      exact e
    · rename_i e1
      try rw [e1]
      exact am_run_more n k _ _ _ _ _ e
    · rename_i e1
      try rw [e1]
      exact am_run_more n k _ _ _ _ _ e
theorem am_run_one {K : Nat → List am_V → am_H → Option am_O} {B : Nat → List am_I} {n n' : Nat} {is : List am_I} {L : am_L} {S : List am_V} {h : am_H} {o o' : am_O} (e : am_run K B n is L S h = some o) (e' : am_run K B n' is L S h = some o') : o = o' := by
  have a := am_run_more n n' _ _ _ _ _ e
  have b := am_run_more n' n _ _ _ _ _ e'
  rw [Nat.add_comm] at b
  exact Option.some.inj (a.symm.trans b)
def am_ent : List am_V → am_L
  | [] => []
  | .inr (.inl x) :: r => some (.inr (.inl x)) :: none :: am_ent r
  | .inl x :: r => some (.inl x) :: am_ent r
  | .inr (.inr x) :: r => some (.inr (.inr x)) :: am_ent r
def am_loc (n : Nat) (as : List am_V) : am_L := am_ent as ++ List.replicate (n - (am_ent as).length) none
/-- a method's answer at a depth: blocks and number of locals by the method's number -/
noncomputable def am_call (B : Nat → Nat → List am_I) (M : Nat → Nat) : Nat → Nat → List am_V → am_H → Option am_O
  | 0, _, _, _ => none
  | d + 1, y, as, h => @dite (Option am_O) (∃ o : am_O, (am_ent as).length ≤ M y ∧ ∃ n : Nat, am_run (am_call B M d) (B y) n (B y 0) (am_loc (M y) as) [] h = some o) (Classical.propDecidable _) (fun q => some (Classical.choose q)) (fun _ => none)
theorem am_call_of {B : Nat → Nat → List am_I} {M : Nat → Nat} {d y n : Nat} {as : List am_V} {h : am_H} {o : am_O} (hl : (am_ent as).length ≤ M y) (e : am_run (am_call B M d) (B y) n (B y 0) (am_loc (M y) as) [] h = some o) : am_call B M (d + 1) y as h = some o := by
  have q : ∃ o : am_O, (am_ent as).length ≤ M y ∧ ∃ n : Nat, am_run (am_call B M d) (B y) n (B y 0) (am_loc (M y) as) [] h = some o := ⟨o, hl, n, e⟩
  rw [am_call, dif_pos q]
  obtain ⟨-, n', e'⟩ := Classical.choose_spec q
  exact congrArg some (am_run_one e' e)
theorem am_call_run {B : Nat → Nat → List am_I} {M : Nat → Nat} {d y : Nat} {as : List am_V} {h : am_H} {o : am_O} (e : am_call B M (d + 1) y as h = some o) : (am_ent as).length ≤ M y ∧ ∃ n, am_run (am_call B M d) (B y) n (B y 0) (am_loc (M y) as) [] h = some o := by
  rw [am_call] at e
  split at e
  · rename_i q
    obtain ⟨hl, n', e'⟩ := Classical.choose_spec q
    rw [Option.some.inj e] at e'
    exact ⟨hl, n', e'⟩
  · cases e
