/-! ===== walking the abstract machine: a row an instruction ===== -/
def am_ex (K : Nat → List am_V → am_H → Option am_O) (B : Nat → List am_I) (is : List am_I) (L : am_L) (S : List am_V) (h : am_H) (Q : am_O → Prop) : Prop := ∃ n o, am_run K B n is L S h = some o ∧ Q o
theorem am_add {a b : Int} (h : am_r4 (a + b)) : am_b2 0 a b = a + b := by
  show (Int32.ofInt a + Int32.ofInt b).toInt = _
  rw [← Int32.ofInt_add]
  exact am_of4 h
theorem am_sub {a b : Int} (h : am_r4 (a - b)) : am_b2 1 a b = a - b := by
  show (Int32.ofInt a - Int32.ofInt b).toInt = _
  rw [← Int32.ofInt_sub]
  exact am_of4 h
theorem am_mul {a b : Int} (h : am_r4 (a * b)) : am_b2 2 a b = a * b := by
  show (Int32.ofInt a * Int32.ofInt b).toInt = _
  rw [← Int32.ofInt_mul]
  exact am_of4 h
theorem am_ladd {a b : Int} (h : am_r8 (a + b)) : am_b6 0 a b = a + b := by
  show (Int64.ofInt a + Int64.ofInt b).toInt = _
  rw [← Int64.ofInt_add]
  exact am_of8 h
theorem am_lsub {a b : Int} (h : am_r8 (a - b)) : am_b6 1 a b = a - b := by
  show (Int64.ofInt a - Int64.ofInt b).toInt = _
  rw [← Int64.ofInt_sub]
  exact am_of8 h
theorem am_lmul {a b : Int} (h : am_r8 (a * b)) : am_b6 2 a b = a * b := by
  show (Int64.ofInt a * Int64.ofInt b).toInt = _
  rw [← Int64.ofInt_mul]
  exact am_of8 h
section EX
variable {K : Nat → List am_V → am_H → Option am_O} {B : Nat → List am_I} {i : am_I} {is : List am_I} {L L' : am_L} {S S' : List am_V} {h h' : am_H} {Q : am_O → Prop} {pc b t f k q n ci idx kd o y : Nat} {c x a v lo : Int} {ns : List Nat}
theorem ex_nx (hs : am_step K i L S h = some (.inr (none, L', S', h'))) (hk : am_ex K B is L' S' h' Q) : am_ex K B (i :: is) L S h Q := by
  obtain ⟨n, o, r, z⟩ := hk
  exact ⟨n + 1, o, by rw [am_run, hs]; exact r, z⟩
theorem ex_jp (hs : am_step K i L S h = some (.inr (some b, L', S', h'))) (hk : am_ex K B (B b) L' S' h' Q) : am_ex K B (i :: is) L S h Q := by
  obtain ⟨n, o, r, z⟩ := hk
  exact ⟨n + 1, o, by rw [am_run, hs]; exact r, z⟩
theorem ex_rt {w : am_O} (hs : am_step K i L S h = some (.inl w)) (hq : Q w) : am_ex K B (i :: is) L S h Q := ⟨1, w, by rw [am_run, hs], hq⟩
theorem ex_0 (hk : am_ex K B is L (.inl c :: S) h Q) : am_ex K B ((0, pc, c, ns) :: is) L S h Q := ex_nx rfl hk
theorem ex_1 (hk : am_ex K B is L (.inr (.inl c) :: S) h Q) : am_ex K B ((1, pc, c, ns) :: is) L S h Q := ex_nx rfl hk
theorem ex_2 (hk : am_ex K B is L (.inr (.inr none) :: S) h Q) : am_ex K B ((2, pc, c, ns) :: is) L S h Q := ex_nx rfl hk
theorem ex_3 (hk : am_ex K B is L (.inr (.inr (some q)) :: S) h Q) : am_ex K B ((3, pc, c, [q, k]) :: is) L S h Q := ex_nx rfl hk
theorem ex_4 (hv : am_ld L k = some (.inl x)) (hk : am_ex K B is L (.inl x :: S) h Q) : am_ex K B ((4, pc, c, [k]) :: is) L S h Q := ex_nx (by simp only [am_step, hv]; rfl) hk
theorem ex_5 (hv : am_ld L k = some (.inr (.inl x))) (hk : am_ex K B is L (.inr (.inl x) :: S) h Q) : am_ex K B ((5, pc, c, [k]) :: is) L S h Q := ex_nx (by simp only [am_step, hv]; rfl) hk
theorem ex_6 {r : Option Nat} (hv : am_ld L k = some (.inr (.inr r))) (hk : am_ex K B is L (.inr (.inr r) :: S) h Q) : am_ex K B ((6, pc, c, [k]) :: is) L S h Q := ex_nx (by simp only [am_step, hv]; rfl) hk
theorem am_okt2 {b : Bool} {r : am_R} (hb : b = true) : am_ok b r = r := by subst hb; rfl
theorem ex_7 (hl : decide (k < L.length) = true) (hL : am_st1 L k (.inl x) = L') (hk : am_ex K B is L' S h Q) : am_ex K B ((7, pc, c, [k]) :: is) L (.inl x :: S) h Q := ex_nx (by simp only [am_step, am_okt2 hl, hL]; rfl) hk
theorem ex_8 (hl : decide (k + 1 < L.length) = true) (hL : am_st2 L k (.inr (.inl x)) = L') (hk : am_ex K B is L' S h Q) : am_ex K B ((8, pc, c, [k]) :: is) L (.inr (.inl x) :: S) h Q := ex_nx (by simp only [am_step, am_okt2 hl, hL]; rfl) hk
theorem ex_9 {r : Option Nat} (hl : decide (k < L.length) = true) (hL : am_st1 L k (.inr (.inr r)) = L') (hk : am_ex K B is L' S h Q) : am_ex K B ((9, pc, c, [k]) :: is) L (.inr (.inr r) :: S) h Q := ex_nx (by simp only [am_step, am_okt2 hl, hL]; rfl) hk
theorem ex_10 (hv : am_ld L k = some (.inl x)) (hr : am_r4 (x + c)) (hL : am_st1 L k (.inl (x + c)) = L') (hk : am_ex K B is L' S h Q) : am_ex K B ((10, pc, c, [k]) :: is) L S h Q := ex_nx (by simp only [am_step, hv, am_add hr, hL]; rfl) hk
theorem ex_10w (hv : am_ld L k = some (.inl x)) (hL : am_st1 L k (.inl (am_b2 0 x c)) = L') (hk : am_ex K B is L' S h Q) : am_ex K B ((10, pc, c, [k]) :: is) L S h Q := ex_nx (by simp only [am_step, hv, hL]; rfl) hk
theorem ex_add (hr : am_r4 (a + x)) (hk : am_ex K B is L (.inl (a + x) :: S) h Q) : am_ex K B ((11, pc, c, [0]) :: is) L (.inl x :: .inl a :: S) h Q := ex_nx (by simp only [am_step, am_add hr]; rfl) hk
theorem ex_sub (hr : am_r4 (a - x)) (hk : am_ex K B is L (.inl (a - x) :: S) h Q) : am_ex K B ((11, pc, c, [1]) :: is) L (.inl x :: .inl a :: S) h Q := ex_nx (by simp only [am_step, am_sub hr]; rfl) hk
theorem ex_mul (hr : am_r4 (a * x)) (hk : am_ex K B is L (.inl (a * x) :: S) h Q) : am_ex K B ((11, pc, c, [2]) :: is) L (.inl x :: .inl a :: S) h Q := ex_nx (by simp only [am_step, am_mul hr]; rfl) hk
theorem ex_11 (hk : am_ex K B is L (.inl (am_b2 o a x) :: S) h Q) : am_ex K B ((11, pc, c, [o]) :: is) L (.inl x :: .inl a :: S) h Q := ex_nx rfl hk
theorem ex_11e (he : am_b2 o a x = v) (hk : am_ex K B is L (.inl v :: S) h Q) : am_ex K B ((11, pc, c, [o]) :: is) L (.inl x :: .inl a :: S) h Q := ex_nx (by simp only [am_step, he]; rfl) hk
theorem ex_12 (hx : ¬ x = 0) (he : am_d4 o a x = v) (hk : am_ex K B is L (.inl v :: S) h Q) : am_ex K B ((12, pc, c, [o]) :: is) L (.inl x :: .inl a :: S) h Q := ex_nx (by simp only [am_step, he, am_okt2 (decide_eq_true hx)]; rfl) hk
theorem ex_14 (hr : am_r4 (0 - a)) (hk : am_ex K B is L (.inl (0 - a) :: S) h Q) : am_ex K B ((14, pc, c, ns) :: is) L (.inl a :: S) h Q := ex_nx (by simp only [am_step, am_sub hr]; rfl) hk
theorem ex_ladd (hr : am_r8 (a + x)) (hk : am_ex K B is L (.inr (.inl (a + x)) :: S) h Q) : am_ex K B ((15, pc, c, [0]) :: is) L (.inr (.inl x) :: .inr (.inl a) :: S) h Q := ex_nx (by simp only [am_step, am_ladd hr]; rfl) hk
theorem ex_lsub (hr : am_r8 (a - x)) (hk : am_ex K B is L (.inr (.inl (a - x)) :: S) h Q) : am_ex K B ((15, pc, c, [1]) :: is) L (.inr (.inl x) :: .inr (.inl a) :: S) h Q := ex_nx (by simp only [am_step, am_lsub hr]; rfl) hk
theorem ex_lmul (hr : am_r8 (a * x)) (hk : am_ex K B is L (.inr (.inl (a * x)) :: S) h Q) : am_ex K B ((15, pc, c, [2]) :: is) L (.inr (.inl x) :: .inr (.inl a) :: S) h Q := ex_nx (by simp only [am_step, am_lmul hr]; rfl) hk
theorem ex_16 (hx : ¬ x = 0) (he : am_d8 o a x = v) (hk : am_ex K B is L (.inr (.inl v) :: S) h Q) : am_ex K B ((16, pc, c, [o]) :: is) L (.inr (.inl x) :: .inr (.inl a) :: S) h Q := ex_nx (by simp only [am_step, he, am_okt2 (decide_eq_true hx)]; rfl) hk
theorem ex_18 (hk : am_ex K B is L (.inl (am_cm a x) :: S) h Q) : am_ex K B ((18, pc, c, ns) :: is) L (.inr (.inl x) :: .inr (.inl a) :: S) h Q := ex_nx rfl hk
theorem ex_19 (hk : am_ex K B is L (.inr (.inl a) :: S) h Q) : am_ex K B ((19, pc, c, ns) :: is) L (.inl a :: S) h Q := ex_nx rfl hk
theorem ex_20 (hr : am_r4 a) (hk : am_ex K B is L (.inl a :: S) h Q) : am_ex K B ((20, pc, c, ns) :: is) L (.inr (.inl a) :: S) h Q := ex_nx (by simp only [am_step, am_of4 hr]; rfl) hk
theorem ex_21 (hk : am_ex K B is L (.inl (am_by a) :: S) h Q) : am_ex K B ((21, pc, c, ns) :: is) L (.inl a :: S) h Q := ex_nx rfl hk
theorem ex_22 {w : am_V} (hc : decide (am_ct w = 1) = true) (hk : am_ex K B is L (w :: w :: S) h Q) : am_ex K B ((22, pc, c, ns) :: is) L (w :: S) h Q := ex_nx (by simp only [am_step, am_okt2 hc]; rfl) hk
theorem ex_23 {w z : am_V} (hc : decide (am_ct w = 1 ∧ am_ct z = 1) = true) (hk : am_ex K B is L (w :: z :: w :: z :: S) h Q) : am_ex K B ((23, pc, c, ns) :: is) L (w :: z :: S) h Q := ex_nx (by simp only [am_step, am_okt2 hc]; rfl) hk
theorem ex_24 {w : am_V} (hc : decide (am_ct w = 1) = true) (hk : am_ex K B is L S h Q) : am_ex K B ((24, pc, c, ns) :: is) L (w :: S) h Q := ex_nx (by simp only [am_step, am_okt2 hc]; rfl) hk
theorem ex_if {C : Prop} (hd : am_cd o a 0 = true ↔ C) (ht : C → am_ex K B (B t) L S h Q) (hf : ¬ C → am_ex K B (B f) L S h Q) : am_ex K B ((25, pc, c, [o, t, f]) :: is) L (.inl a :: S) h Q := by
  by_cases g : am_cd o a 0 = true
  · exact ex_jp (b := t) (by simp only [am_step, am_if, g]; rfl) (ht (hd.mp g))
  · exact ex_jp (b := f) (by simp only [am_step, am_if, g]; rfl) (hf (fun z => g (hd.mpr z)))
theorem ex_if0 (ht : a = 0 → am_ex K B (B t) L S h Q) (hf : ¬ a = 0 → am_ex K B (B f) L S h Q) : am_ex K B ((25, pc, c, [0, t, f]) :: is) L (.inl a :: S) h Q := ex_if decide_eq_true_iff ht hf
theorem ex_if1 (ht : ¬ a = 0 → am_ex K B (B t) L S h Q) (hf : a = 0 → am_ex K B (B f) L S h Q) : am_ex K B ((25, pc, c, [1, t, f]) :: is) L (.inl a :: S) h Q := ex_if decide_eq_true_iff ht (fun z => hf (Decidable.not_not.mp z))
theorem ex_if2 (ht : a < 0 → am_ex K B (B t) L S h Q) (hf : ¬ a < 0 → am_ex K B (B f) L S h Q) : am_ex K B ((25, pc, c, [2, t, f]) :: is) L (.inl a :: S) h Q := ex_if decide_eq_true_iff ht hf
theorem ex_if3 (ht : 0 ≤ a → am_ex K B (B t) L S h Q) (hf : ¬ 0 ≤ a → am_ex K B (B f) L S h Q) : am_ex K B ((25, pc, c, [3, t, f]) :: is) L (.inl a :: S) h Q := ex_if decide_eq_true_iff ht hf
theorem ex_if4 (ht : 0 < a → am_ex K B (B t) L S h Q) (hf : ¬ 0 < a → am_ex K B (B f) L S h Q) : am_ex K B ((25, pc, c, [4, t, f]) :: is) L (.inl a :: S) h Q := ex_if decide_eq_true_iff ht hf
theorem ex_if5 (ht : a ≤ 0 → am_ex K B (B t) L S h Q) (hf : ¬ a ≤ 0 → am_ex K B (B f) L S h Q) : am_ex K B ((25, pc, c, [5, t, f]) :: is) L (.inl a :: S) h Q := ex_if decide_eq_true_iff ht hf
theorem ex_ic {C : Prop} (hd : am_cd o a x = true ↔ C) (ht : C → am_ex K B (B t) L S h Q) (hf : ¬ C → am_ex K B (B f) L S h Q) : am_ex K B ((26, pc, c, [o, t, f]) :: is) L (.inl x :: .inl a :: S) h Q := by
  by_cases g : am_cd o a x = true
  · exact ex_jp (b := t) (by simp only [am_step, am_if, g]; rfl) (ht (hd.mp g))
  · exact ex_jp (b := f) (by simp only [am_step, am_if, g]; rfl) (hf (fun z => g (hd.mpr z)))
theorem ex_ic0 (ht : a = x → am_ex K B (B t) L S h Q) (hf : ¬ a = x → am_ex K B (B f) L S h Q) : am_ex K B ((26, pc, c, [0, t, f]) :: is) L (.inl x :: .inl a :: S) h Q := ex_ic decide_eq_true_iff ht hf
theorem ex_ic1 (ht : ¬ a = x → am_ex K B (B t) L S h Q) (hf : a = x → am_ex K B (B f) L S h Q) : am_ex K B ((26, pc, c, [1, t, f]) :: is) L (.inl x :: .inl a :: S) h Q := ex_ic decide_eq_true_iff ht (fun z => hf (Decidable.not_not.mp z))
theorem ex_ic2 (ht : a < x → am_ex K B (B t) L S h Q) (hf : ¬ a < x → am_ex K B (B f) L S h Q) : am_ex K B ((26, pc, c, [2, t, f]) :: is) L (.inl x :: .inl a :: S) h Q := ex_ic decide_eq_true_iff ht hf
theorem ex_ic3 (ht : x ≤ a → am_ex K B (B t) L S h Q) (hf : ¬ x ≤ a → am_ex K B (B f) L S h Q) : am_ex K B ((26, pc, c, [3, t, f]) :: is) L (.inl x :: .inl a :: S) h Q := ex_ic decide_eq_true_iff ht hf
theorem ex_ic4 (ht : x < a → am_ex K B (B t) L S h Q) (hf : ¬ x < a → am_ex K B (B f) L S h Q) : am_ex K B ((26, pc, c, [4, t, f]) :: is) L (.inl x :: .inl a :: S) h Q := ex_ic decide_eq_true_iff ht hf
theorem ex_ic5 (ht : a ≤ x → am_ex K B (B t) L S h Q) (hf : ¬ a ≤ x → am_ex K B (B f) L S h Q) : am_ex K B ((26, pc, c, [5, t, f]) :: is) L (.inl x :: .inl a :: S) h Q := ex_ic decide_eq_true_iff ht hf
theorem ex_27s (hk : am_ex K B (B t) L S h Q) : am_ex K B ((27, pc, c, [t, f]) :: is) L (.inr (.inr (some q)) :: S) h Q := ex_jp (b := t) rfl hk
theorem ex_27n (hk : am_ex K B (B f) L S h Q) : am_ex K B ((27, pc, c, [t, f]) :: is) L (.inr (.inr none) :: S) h Q := ex_jp (b := f) rfl hk
theorem ex_28 (hk : am_ex K B (B b) L S h Q) : am_ex K B ((28, pc, c, [b]) :: is) L S h Q := ex_jp rfl hk
theorem ex_58 (hk : am_ex K B (B b) L S h Q) : am_ex K B ((58, pc, c, [b]) :: is) L S h Q := ex_jp rfl hk
theorem ex_29o {ts : List Nat} (hx : x < c ∨ c + (ts.length : Int) ≤ x) (hk : am_ex K B (B t) L S h Q) : am_ex K B ((29, pc, c, t :: ts) :: is) L (.inl x :: S) h Q := ex_jp (b := t) (by simp only [am_step, if_pos hx]; rfl) hk
theorem ex_29i {ts : List Nat} (j : Nat) (hx : x = c + (j : Int)) (hj : ts[j]? = some b) (hk : am_ex K B (B b) L S h Q) : am_ex K B ((29, pc, c, t :: ts) :: is) L (.inl x :: S) h Q := by
  have h1 := (List.getElem?_eq_some_iff.mp hj).1
  have h2 : ¬ (x < c ∨ c + (ts.length : Int) ≤ x) := by omega
  have h3 : (x - c).toNat = j := by omega
  exact ex_jp (b := b) (by simp only [am_step, if_neg h2, h3, List.getD_eq_getElem?_getD, hj]; rfl) hk
theorem am_pk_of {m : Nat} (hs : h.1.2.2 q = .inl (m, n)) (h0 : 0 ≤ x) (h1 : x < (n : Int)) : am_pk m q x h = true := by
  unfold am_pk
  rw [hs]
  exact decide_eq_true ⟨rfl, h0, h1⟩
theorem am_ob_of (hs : h.1.2.2 q = .inr ci) : am_ob ci q h = true := by
  unfold am_ob
  rw [hs]
  exact decide_eq_true rfl
theorem ex_30 (hs : h.1.2.2 q = .inl (0, n)) (h0 : 0 ≤ x) (h1 : x < (n : Int)) (he : h.2.1 q x.toNat = v) (hk : am_ex K B is L (.inl v :: S) h Q) : am_ex K B ((30, pc, c, ns) :: is) L (.inl x :: .inr (.inr (some q)) :: S) h Q := ex_nx (by simp only [am_step, am_pk_of hs h0 h1, Bool.true_or, am_okt2 rfl, he]; rfl) hk
theorem ex_30x (hs : h.1.2.2 q = .inl (7, n)) (h0 : 0 ≤ x) (h1 : x < (n : Int)) (he : h.2.1 q x.toNat = v) (hk : am_ex K B is L (.inl v :: S) h Q) : am_ex K B ((30, pc, c, ns) :: is) L (.inl x :: .inr (.inr (some q)) :: S) h Q := ex_nx (by simp only [am_step, am_pk_of hs h0 h1, Bool.or_true, am_okt2 rfl, he]; rfl) hk
theorem ex_31 (hs : h.1.2.2 q = .inl (t, n)) (h0 : 0 ≤ x) (h1 : x < (n : Int)) (he : h.2.1 q x.toNat = v) (hk : am_ex K B is L (.inl v :: S) h Q) : am_ex K B ((31, pc, c, [t]) :: is) L (.inl x :: .inr (.inr (some q)) :: S) h Q := ex_nx (by simp only [am_step, am_pk_of hs h0 h1, am_okt2 rfl, he]; rfl) hk
theorem ex_32 (hs : h.1.2.2 q = .inl (3, n)) (h0 : 0 ≤ x) (h1 : x < (n : Int)) (he : h.2.1 q x.toNat = v) (hk : am_ex K B is L (.inr (.inl v) :: S) h Q) : am_ex K B ((32, pc, c, ns) :: is) L (.inl x :: .inr (.inr (some q)) :: S) h Q := ex_nx (by simp only [am_step, am_pk_of hs h0 h1, am_okt2 rfl, he]; rfl) hk
theorem ex_33 {r : Option Nat} (hs : h.1.2.2 q = .inl (t, n)) (h0 : 0 ≤ x) (h1 : x < (n : Int)) (he : h.2.2 q x.toNat = r) (hk : am_ex K B is L (.inr (.inr r) :: S) h Q) : am_ex K B ((33, pc, c, [t]) :: is) L (.inl x :: .inr (.inr (some q)) :: S) h Q := ex_nx (by simp only [am_step, am_pk_of hs h0 h1, am_okt2 rfl, he]; rfl) hk
theorem ex_34 (hs : h.1.2.2 q = .inl (0, n)) (h0 : 0 ≤ x) (h1 : x < (n : Int)) (hk : am_ex K B is L S (am_hI h q x.toNat v) Q) : am_ex K B ((34, pc, c, ns) :: is) L (.inl v :: .inl x :: .inr (.inr (some q)) :: S) h Q := ex_nx (by simp only [am_step, am_pk_of hs h0 h1, am_okt2 rfl]; rfl) hk
theorem ex_35b (hs : h.1.2.2 q = .inl (1, n)) (h0 : 0 ≤ x) (h1 : x < (n : Int)) (hk : am_ex K B is L S (am_hI h q x.toNat (am_by v)) Q) : am_ex K B ((35, pc, c, [1]) :: is) L (.inl v :: .inl x :: .inr (.inr (some q)) :: S) h Q := ex_nx (by simp only [am_step, am_pk_of hs h0 h1]; rfl) hk
theorem ex_35z (hs : h.1.2.2 q = .inl (2, n)) (h0 : 0 ≤ x) (h1 : x < (n : Int)) (hv : v = 0 ∨ v = 1) (hk : am_ex K B is L S (am_hI h q x.toNat v) Q) : am_ex K B ((35, pc, c, [2]) :: is) L (.inl v :: .inl x :: .inr (.inr (some q)) :: S) h Q := ex_nx (by simp only [am_step, am_pk_of hs h0 h1, decide_eq_true hv]; rfl) hk
theorem ex_36 (hs : h.1.2.2 q = .inl (3, n)) (h0 : 0 ≤ x) (h1 : x < (n : Int)) (hk : am_ex K B is L S (am_hI h q x.toNat v) Q) : am_ex K B ((36, pc, c, ns) :: is) L (.inr (.inl v) :: .inl x :: .inr (.inr (some q)) :: S) h Q := ex_nx (by simp only [am_step, am_pk_of hs h0 h1, am_okt2 rfl]; rfl) hk
theorem ex_37 {r : Option Nat} (hs : h.1.2.2 q = .inl (t, n)) (h0 : 0 ≤ x) (h1 : x < (n : Int)) (hv : am_nb r ci h = true) (hk : am_ex K B is L S (am_hP h q x.toNat r) Q) : am_ex K B ((37, pc, c, [t, ci]) :: is) L (.inr (.inr r) :: .inl x :: .inr (.inr (some q)) :: S) h Q := ex_nx (by simp only [am_step, am_pk_of hs h0 h1, hv]; rfl) hk
theorem ex_38 (hs : h.1.2.2 q = .inl (t, n)) (ht : t < 8) (hk : am_ex K B is L (.inl (n : Int) :: S) h Q) : am_ex K B ((38, pc, c, ns) :: is) L (.inr (.inr (some q)) :: S) h Q := ex_nx (by simp only [am_step, am_len, hs, if_pos ht]; rfl) hk
theorem ex_39 (h0 : 0 ≤ x ∧ x ≤ 100000) (hk : am_ex K B is L (.inr (.inr (some (64 + h.1.1))) :: S) (am_mk h (.inl (t, x.toNat)) x.toNat) Q) : am_ex K B ((39, pc, c, [t, k]) :: is) L (.inl x :: S) h Q := ex_nx (by simp only [am_step, am_okt2 (decide_eq_true h0)]; rfl) hk
theorem ex_41i (hs : h.1.2.2 q = .inr ci) (he : h.2.1 q k = v) (hk : am_ex K B is L (.inl v :: S) h Q) : am_ex K B ((41, pc, c, [ci, k, 0, idx]) :: is) L (.inr (.inr (some q)) :: S) h Q := ex_nx (by simp only [am_step, am_ob_of hs, am_okt2 rfl, am_gf, he]; rfl) hk
theorem ex_41l (hs : h.1.2.2 q = .inr ci) (he : h.2.1 q k = v) (hk : am_ex K B is L (.inr (.inl v) :: S) h Q) : am_ex K B ((41, pc, c, [ci, k, 1, idx]) :: is) L (.inr (.inr (some q)) :: S) h Q := ex_nx (by simp only [am_step, am_ob_of hs, am_okt2 rfl, am_gf, he]; rfl) hk
theorem ex_41r {r : Option Nat} (hs : h.1.2.2 q = .inr ci) (he : h.2.2 q k = r) (hk : am_ex K B is L (.inr (.inr r) :: S) h Q) : am_ex K B ((41, pc, c, [ci, k, 2, idx]) :: is) L (.inr (.inr (some q)) :: S) h Q := ex_nx (by simp only [am_step, am_ob_of hs, am_okt2 rfl, am_gf, he]; rfl) hk
theorem ex_42i (hs : h.1.2.2 q = .inr ci) (hk : am_ex K B is L S (am_hI h q k v) Q) : am_ex K B ((42, pc, c, [ci, k, 0, idx]) :: is) L (.inl v :: .inr (.inr (some q)) :: S) h Q := ex_nx (by simp only [am_step, am_ob_of hs]; rfl) hk
theorem ex_42z (hs : h.1.2.2 q = .inr ci) (hv : v = 0 ∨ v = 1) (hk : am_ex K B is L S (am_hI h q k v) Q) : am_ex K B ((42, pc, c, [ci, k, 3, idx]) :: is) L (.inl v :: .inr (.inr (some q)) :: S) h Q := ex_nx (by simp only [am_step, am_ob_of hs, decide_eq_true hv]; rfl) hk
theorem ex_42l (hs : h.1.2.2 q = .inr ci) (hk : am_ex K B is L S (am_hI h q k v) Q) : am_ex K B ((42, pc, c, [ci, k, 1, idx]) :: is) L (.inr (.inl v) :: .inr (.inr (some q)) :: S) h Q := ex_nx (by simp only [am_step, am_ob_of hs]; rfl) hk
theorem ex_42r {r : Option Nat} (hs : h.1.2.2 q = .inr ci) (hk : am_ex K B is L S (am_hP h q k r) Q) : am_ex K B ((42, pc, c, [ci, k, 2, idx]) :: is) L (.inr (.inr r) :: .inr (.inr (some q)) :: S) h Q := ex_nx (by simp only [am_step, am_ob_of hs]; rfl) hk
theorem ex_44 (hk : am_ex K B is L (.inr (.inr (some (64 + h.1.1))) :: S) (am_mk h (.inr ci) (am_nf ci)) Q) : am_ex K B ((44, pc, c, [ci, k]) :: is) L S h Q := ex_nx rfl hk
theorem ex_45 {r : Option am_V} (hn : decide (n ≤ S.length ∧ am_sz (S.drop n) ≤ 8) = true) (he : K y (S.take n).reverse h = some (r, h')) (hk : am_ex K B is L (r.toList ++ S.drop n) h' Q) : am_ex K B ((45, pc, c, [y, n, k]) :: is) L S h Q := ex_nx (by simp only [am_step, am_okt2 hn, he]; rfl) hk
theorem ex_46 {r : Option am_V} {as : List am_V} (hn : decide (n ≤ S.length ∧ am_sz (S.drop n) ≤ 8) = true) (ha : (S.take n).reverse = .inr (.inr (some q)) :: as) (hs : h.1.2.2 q = .inr ci) (he : K y (.inr (.inr (some q)) :: as) h = some (r, h')) (hk : am_ex K B is L (r.toList ++ S.drop n) h' Q) : am_ex K B ((46, pc, c, [y, n, ci, k]) :: is) L S h Q := ex_nx (by simp only [am_step, ha, am_ob_of hs, hn, he]; rfl) hk
theorem ex_47 (hz : decide (am_sz S ≤ 8) = true) (hk : am_ex K B is L S h Q) : am_ex K B ((47, pc, c, ns) :: is) L (.inr (.inr (some q)) :: S) h Q := ex_nx (by simp only [am_step, am_okt2 hz]; rfl) hk
theorem ex_max (hz : decide (am_sz S ≤ 8) = true) (he : (if a ≤ x then x else a) = v) (hk : am_ex K B is L (.inl v :: S) h Q) : am_ex K B ((48, pc, c, [0, k]) :: is) L (.inl x :: .inl a :: S) h Q := ex_nx (by simp only [am_step, am_okt2 hz, if_true, he]; rfl) hk
theorem ex_min (hz : decide (am_sz S ≤ 8) = true) (he : (if a ≤ x then a else x) = v) (hk : am_ex K B is L (.inl v :: S) h Q) : am_ex K B ((48, pc, c, [1, k]) :: is) L (.inl x :: .inl a :: S) h Q := by
  subst he
  exact ex_nx (by simp only [am_step, am_okt2 hz]; rfl) hk
theorem ex_50 (hs : h.1.2.2 q = .inl (8, n)) (hz : decide (am_sz S ≤ 8) = true) (hk : am_ex K B is L (.inl (n : Int) :: S) h Q) : am_ex K B ((50, pc, c, ns) :: is) L (.inr (.inr (some q)) :: S) h Q := ex_nx (by simp only [am_step, hs, am_okt2 hz]; rfl) hk
theorem ex_51 (hs : h.1.2.2 q = .inl (8, n)) (h0 : 0 ≤ x) (h1 : x < (n : Int)) (hz : decide (am_sz S ≤ 8) = true) (he : h.2.1 q x.toNat = v) (hk : am_ex K B is L (.inl v :: S) h Q) : am_ex K B ((51, pc, c, ns) :: is) L (.inl x :: .inr (.inr (some q)) :: S) h Q := ex_nx (by simp only [am_step, am_pk_of hs h0 h1, hz, he]; rfl) hk
theorem ex_52 {q0 q1 m0 m1 : Nat} {w dp sp : Int} (e0 : h.1.2.2 q0 = .inl (0, m0)) (e1 : h.1.2.2 q1 = .inl (0, m1)) (hr : 0 ≤ w ∧ 0 ≤ sp ∧ 0 ≤ dp ∧ sp + w ≤ (m0 : Int) ∧ dp + w ≤ (m1 : Int) ∧ am_sz S ≤ 8) (hk : am_ex K B is L S (am_hA h q1 (am_cp (h.2.1 q0) (h.2.1 q1) sp.toNat dp.toNat w.toNat)) Q) : am_ex K B ((52, pc, c, ns) :: is) L (.inl w :: .inl dp :: .inr (.inr (some q1)) :: .inl sp :: .inr (.inr (some q0)) :: S) h Q := ex_nx (by simp only [am_step, e0, e1, am_okt2 (decide_eq_true hr)]; rfl) hk
theorem ex_53 (hq : Q (some (.inl x), h)) : am_ex K B ((53, pc, c, ns) :: is) L [.inl x] h Q := ex_rt rfl hq
theorem ex_54 (hq : Q (some (.inr (.inl x)), h)) : am_ex K B ((54, pc, c, ns) :: is) L [.inr (.inl x)] h Q := ex_rt rfl hq
theorem ex_55 (hq : Q (some (.inr (.inr (some q))), h)) : am_ex K B ((55, pc, c, ns) :: is) L [.inr (.inr (some q))] h Q := ex_rt rfl hq
theorem ex_56 (hq : Q (none, h)) : am_ex K B ((56, pc, c, ns) :: is) L [] h Q := ex_rt rfl hq
theorem ex_57 (hv : x = 0 ∨ x = 1) (hq : Q (some (.inl x), h)) : am_ex K B ((57, pc, c, ns) :: is) L [.inl x] h Q := ex_rt (by simp only [am_step, am_okt2 (decide_eq_true hv)]; rfl) hq
end EX
/-- a call's answer out of its walk -/
theorem am_do {d y : Nat} {as : List am_V} {h : am_H} {Q : am_O → Prop} (hl : (am_ent as).length ≤ am_M y) (hx : am_ex (am_call am_B am_M d) (am_B y) (am_B y 0) (am_loc (am_M y) as) [] h Q) : ∃ o, am_call am_B am_M (d + 1) y as h = some o ∧ Q o := by
  obtain ⟨n, o, r, q⟩ := hx
  exact ⟨o, am_call_of hl r, q⟩
theorem am_doE {d y : Nat} {as : List am_V} {h : am_H} {o : am_O} (hl : (am_ent as).length ≤ am_M y) (hx : am_ex (am_call am_B am_M d) (am_B y) (am_B y 0) (am_loc (am_M y) as) [] h (fun z => z = o)) : am_call am_B am_M (d + 1) y as h = some o := by
  obtain ⟨z, e, rfl⟩ := am_do hl hx
  exact e
