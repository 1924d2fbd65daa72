/-! ===== rows over heaps written (G, I, P); loops; bits ===== -/
theorem u2_q {α : Type} {f : Nat → Nat → α} {q q' k j : Nat} {v : α} (h : ¬ q' = q) : am_u2 f q k v q' j = f q' j := by
  unfold am_u2 am_u1; rw [if_neg h]
theorem u2_qf {α : Type} {f : Nat → Nat → α} {q q' k : Nat} {v : α} (h : ¬ q' = q) : am_u2 f q k v q' = f q' := by
  unfold am_u2 am_u1; rw [if_neg h]
theorem u2_e {α : Type} {f : Nat → Nat → α} {q k : Nat} {v : α} : am_u2 f q k v q k = v := by
  unfold am_u2 am_u1; rw [if_pos rfl, if_pos rfl]
theorem u2_k {α : Type} {f : Nat → Nat → α} {q k j : Nat} {v : α} (h : ¬ j = k) : am_u2 f q k v q j = f q j := by
  unfold am_u2 am_u1; rw [if_pos rfl, if_neg h]
theorem u2_at {α : Type} {f : Nat → Nat → α} {q k j : Nat} {v : α} : am_u2 f q k v q j = if j = k then v else f q j := by
  unfold am_u2 am_u1; rw [if_pos rfl]
theorem am_doL {d y : Nat} {as : List am_V} {h : am_H} {o : am_O} {L : am_L} (hl : (am_ent as).length ≤ am_M y) (hL : am_loc (am_M y) as = L) (hx : am_ex (am_call am_B am_M d) (am_B y) (am_B y 0) L [] h (fun z => z = o)) : am_call am_B am_M (d + 1) y as h = some o := am_doE hl (by rw [hL]; exact hx)
theorem am_doQ {d y : Nat} {as : List am_V} {h : am_H} {Q : am_O → Prop} {L : am_L} (hl : (am_ent as).length ≤ am_M y) (hL : am_loc (am_M y) as = L) (hx : am_ex (am_call am_B am_M d) (am_B y) (am_B y 0) L [] h Q) : ∃ o, am_call am_B am_M (d + 1) y as h = some o ∧ Q o := am_do hl (by rw [hL]; exact hx)
section IX
variable {K : Nat → List am_V → am_H → Option am_O} {B : Nat → List am_I} {is : List am_I} {L : am_L} {S : List am_V} {G : am_G} {I : Nat → Nat → Int} {P : Nat → Nat → Option Nat} {h : am_H} {Q : am_O → Prop} {pc b t f k q n ci idx j : Nat} {c x a v : Int} {ns : List Nat}
theorem ix_30 (hs : G.2.2 q = .inl (0, n)) (h0 : 0 ≤ x) (h1 : x < (n : Int)) (hj : x.toNat = j) (he : I q j = v) (hk : am_ex K B is L (.inl v :: S) (G, I, P) Q) : am_ex K B ((30, pc, c, ns) :: is) L (.inl x :: .inr (.inr (some q)) :: S) (G, I, P) Q := ex_30 hs h0 h1 (by rw [hj]; exact he) hk
theorem ix_30x (hs : G.2.2 q = .inl (7, n)) (h0 : 0 ≤ x) (h1 : x < (n : Int)) (hj : x.toNat = j) (he : I q j = v) (hk : am_ex K B is L (.inl v :: S) (G, I, P) Q) : am_ex K B ((30, pc, c, ns) :: is) L (.inl x :: .inr (.inr (some q)) :: S) (G, I, P) Q := ex_30x hs h0 h1 (by rw [hj]; exact he) hk
theorem ix_31 (hs : G.2.2 q = .inl (t, n)) (h0 : 0 ≤ x) (h1 : x < (n : Int)) (hj : x.toNat = j) (he : I q j = v) (hk : am_ex K B is L (.inl v :: S) (G, I, P) Q) : am_ex K B ((31, pc, c, [t]) :: is) L (.inl x :: .inr (.inr (some q)) :: S) (G, I, P) Q := ex_31 hs h0 h1 (by rw [hj]; exact he) hk
theorem ix_32 (hs : G.2.2 q = .inl (3, n)) (h0 : 0 ≤ x) (h1 : x < (n : Int)) (hj : x.toNat = j) (he : I q j = v) (hk : am_ex K B is L (.inr (.inl v) :: S) (G, I, P) Q) : am_ex K B ((32, pc, c, ns) :: is) L (.inl x :: .inr (.inr (some q)) :: S) (G, I, P) Q := ex_32 hs h0 h1 (by rw [hj]; exact he) hk
theorem ix_33 {r : Option Nat} (hs : G.2.2 q = .inl (t, n)) (h0 : 0 ≤ x) (h1 : x < (n : Int)) (hj : x.toNat = j) (he : P q j = r) (hk : am_ex K B is L (.inr (.inr r) :: S) (G, I, P) Q) : am_ex K B ((33, pc, c, [t]) :: is) L (.inl x :: .inr (.inr (some q)) :: S) (G, I, P) Q := ex_33 hs h0 h1 (by rw [hj]; exact he) hk
theorem ix_34 (hs : G.2.2 q = .inl (0, n)) (h0 : 0 ≤ x) (h1 : x < (n : Int)) (hj : x.toNat = j) (hk : am_ex K B is L S (G, am_u2 I q j v, P) Q) : am_ex K B ((34, pc, c, ns) :: is) L (.inl v :: .inl x :: .inr (.inr (some q)) :: S) (G, I, P) Q := ex_34 hs h0 h1 (by rw [hj]; exact hk)
theorem ix_35b {w : Int} (hs : G.2.2 q = .inl (1, n)) (h0 : 0 ≤ x) (h1 : x < (n : Int)) (hj : x.toNat = j) (hv : am_by v = w) (hk : am_ex K B is L S (G, am_u2 I q j w, P) Q) : am_ex K B ((35, pc, c, [1]) :: is) L (.inl v :: .inl x :: .inr (.inr (some q)) :: S) (G, I, P) Q := ex_35b hs h0 h1 (by rw [hj, hv]; exact hk)
theorem ix_35z (hs : G.2.2 q = .inl (2, n)) (h0 : 0 ≤ x) (h1 : x < (n : Int)) (hj : x.toNat = j) (hv : v = 0 ∨ v = 1) (hk : am_ex K B is L S (G, am_u2 I q j v, P) Q) : am_ex K B ((35, pc, c, [2]) :: is) L (.inl v :: .inl x :: .inr (.inr (some q)) :: S) (G, I, P) Q := ex_35z hs h0 h1 hv (by rw [hj]; exact hk)
theorem ix_36 (hs : G.2.2 q = .inl (3, n)) (h0 : 0 ≤ x) (h1 : x < (n : Int)) (hj : x.toNat = j) (hk : am_ex K B is L S (G, am_u2 I q j v, P) Q) : am_ex K B ((36, pc, c, ns) :: is) L (.inr (.inl v) :: .inl x :: .inr (.inr (some q)) :: S) (G, I, P) Q := ex_36 hs h0 h1 (by rw [hj]; exact hk)
theorem ix_37 {r : Option Nat} (hs : G.2.2 q = .inl (t, n)) (h0 : 0 ≤ x) (h1 : x < (n : Int)) (hj : x.toNat = j) (hv : am_nb r ci (G, I, P) = true) (hk : am_ex K B is L S (G, I, am_u2 P q j r) Q) : am_ex K B ((37, pc, c, [t, ci]) :: is) L (.inr (.inr r) :: .inl x :: .inr (.inr (some q)) :: S) (G, I, P) Q := ex_37 hs h0 h1 hv (by rw [hj]; exact hk)
theorem ix_38 (hs : G.2.2 q = .inl (t, n)) (ht : t < 8) (hk : am_ex K B is L (.inl (n : Int) :: S) (G, I, P) Q) : am_ex K B ((38, pc, c, ns) :: is) L (.inr (.inr (some q)) :: S) (G, I, P) Q := ex_38 hs ht hk
theorem ix_41i (hs : G.2.2 q = .inr ci) (he : I q k = v) (hk : am_ex K B is L (.inl v :: S) (G, I, P) Q) : am_ex K B ((41, pc, c, [ci, k, 0, idx]) :: is) L (.inr (.inr (some q)) :: S) (G, I, P) Q := ex_41i hs he hk
theorem ix_41z (hs : G.2.2 q = .inr ci) (he : I q k = v) (hk : am_ex K B is L (.inl v :: S) (G, I, P) Q) : am_ex K B ((41, pc, c, [ci, k, 3, idx]) :: is) L (.inr (.inr (some q)) :: S) (G, I, P) Q := ex_nx (by rw [am_step, am_ob_of (h := (G, I, P)) hs, am_okt2 rfl]; show am_nx L (Sum.inl (I q k) :: S) (G, I, P) = _; rw [he]; rfl) hk
theorem ix_41l (hs : G.2.2 q = .inr ci) (he : I q k = v) (hk : am_ex K B is L (.inr (.inl v) :: S) (G, I, P) Q) : am_ex K B ((41, pc, c, [ci, k, 1, idx]) :: is) L (.inr (.inr (some q)) :: S) (G, I, P) Q := ex_41l hs he hk
theorem ix_41r {r : Option Nat} (hs : G.2.2 q = .inr ci) (he : P q k = r) (hk : am_ex K B is L (.inr (.inr r) :: S) (G, I, P) Q) : am_ex K B ((41, pc, c, [ci, k, 2, idx]) :: is) L (.inr (.inr (some q)) :: S) (G, I, P) Q := ex_41r hs he hk
theorem ix_42i (hs : G.2.2 q = .inr ci) (hk : am_ex K B is L S (G, am_u2 I q k v, P) Q) : am_ex K B ((42, pc, c, [ci, k, 0, idx]) :: is) L (.inl v :: .inr (.inr (some q)) :: S) (G, I, P) Q := ex_42i hs hk
theorem ix_42z (hs : G.2.2 q = .inr ci) (hv : v = 0 ∨ v = 1) (hk : am_ex K B is L S (G, am_u2 I q k v, P) Q) : am_ex K B ((42, pc, c, [ci, k, 3, idx]) :: is) L (.inl v :: .inr (.inr (some q)) :: S) (G, I, P) Q := ex_42z hs hv hk
theorem ix_42l (hs : G.2.2 q = .inr ci) (hk : am_ex K B is L S (G, am_u2 I q k v, P) Q) : am_ex K B ((42, pc, c, [ci, k, 1, idx]) :: is) L (.inr (.inl v) :: .inr (.inr (some q)) :: S) (G, I, P) Q := ex_42l hs hk
theorem ix_42r {r : Option Nat} (hs : G.2.2 q = .inr ci) (hk : am_ex K B is L S (G, I, am_u2 P q k r) Q) : am_ex K B ((42, pc, c, [ci, k, 2, idx]) :: is) L (.inr (.inr r) :: .inr (.inr (some q)) :: S) (G, I, P) Q := ex_42r hs hk
theorem ix_50 (hs : G.2.2 q = .inl (8, n)) (hz : decide (am_sz S ≤ 8) = true) (hk : am_ex K B is L (.inl (n : Int) :: S) (G, I, P) Q) : am_ex K B ((50, pc, c, ns) :: is) L (.inr (.inr (some q)) :: S) (G, I, P) Q := ex_50 hs hz hk
theorem ix_51 (hs : G.2.2 q = .inl (8, n)) (h0 : 0 ≤ x) (h1 : x < (n : Int)) (hz : decide (am_sz S ≤ 8) = true) (hj : x.toNat = j) (he : I q j = v) (hk : am_ex K B is L (.inl v :: S) (G, I, P) Q) : am_ex K B ((51, pc, c, ns) :: is) L (.inl x :: .inr (.inr (some q)) :: S) (G, I, P) Q := ex_51 hs h0 h1 hz (by rw [hj]; exact he) hk
theorem ix_52 {q0 q1 m0 m1 sj dj nj : Nat} {w dp sp : Int} (e0 : G.2.2 q0 = .inl (0, m0)) (e1 : G.2.2 q1 = .inl (0, m1)) (hr : 0 ≤ w ∧ 0 ≤ sp ∧ 0 ≤ dp ∧ sp + w ≤ (m0 : Int) ∧ dp + w ≤ (m1 : Int) ∧ am_sz S ≤ 8) (h1 : sp.toNat = sj) (h2 : dp.toNat = dj) (h3 : w.toNat = nj) (hk : am_ex K B is L S (G, am_u1 I q1 (am_cp (I q0) (I q1) sj dj nj), P) Q) : am_ex K B ((52, pc, c, ns) :: is) L (.inl w :: .inl dp :: .inr (.inr (some q1)) :: .inl sp :: .inr (.inr (some q0)) :: S) (G, I, P) Q := ex_52 e0 e1 hr (by rw [h1, h2, h3]; exact hk)
theorem ix_45 {y : Nat} {r : Option am_V} {as S' : List am_V} {h' : am_H} (hn : decide (n ≤ S.length ∧ am_sz (S.drop n) ≤ 8) = true) (he : K y as h = some (r, h')) (ha : (S.take n).reverse = as) (hS' : r.toList ++ S.drop n = S') (hk : am_ex K B is L S' h' Q) : am_ex K B ((45, pc, c, [y, n, k]) :: is) L S h Q := ex_45 hn (by rw [ha]; exact he) (by rw [hS']; exact hk)
theorem ix_46 {y : Nat} {r : Option am_V} {as S' : List am_V} {h' : am_H} (hn : decide (n ≤ S.length ∧ am_sz (S.drop n) ≤ 8) = true) (hs : h.1.2.2 q = .inr ci) (he : K y (.inr (.inr (some q)) :: as) h = some (r, h')) (ha : (S.take n).reverse = .inr (.inr (some q)) :: as) (hS' : r.toList ++ S.drop n = S') (hk : am_ex K B is L S' h' Q) : am_ex K B ((46, pc, c, [y, n, ci, k]) :: is) L S h Q := ex_46 hn ha hs he (by rw [hS']; exact hk)
theorem ex_21e {w : Int} (hv : am_by a = w) (hk : am_ex K B is L (.inl w :: S) h Q) : am_ex K B ((21, pc, c, ns) :: is) L (.inl a :: S) h Q := ex_21 (by rw [hv]; exact hk)
theorem ex_lc0 {pc' : Nat} {c' : Int} (ht : a = x → am_ex K B (B t) L S h Q) (hf : ¬ a = x → am_ex K B (B f) L S h Q) : am_ex K B ((18, pc, c, ns) :: (25, pc', c', [0, t, f]) :: is) L (.inr (.inl x) :: .inr (.inl a) :: S) h Q := ex_18 (ex_if0 (fun g => ht (by unfold am_cm at g; split at g <;> (try split at g) <;> omega)) (fun g => hf (by unfold am_cm at g; split at g <;> (try split at g) <;> omega)))
theorem ex_lc1 {pc' : Nat} {c' : Int} (ht : ¬ a = x → am_ex K B (B t) L S h Q) (hf : a = x → am_ex K B (B f) L S h Q) : am_ex K B ((18, pc, c, ns) :: (25, pc', c', [1, t, f]) :: is) L (.inr (.inl x) :: .inr (.inl a) :: S) h Q := ex_18 (ex_if1 (fun g => ht (by unfold am_cm at g; split at g <;> (try split at g) <;> omega)) (fun g => hf (by unfold am_cm at g; split at g <;> (try split at g) <;> omega)))
theorem ex_lc2 {pc' : Nat} {c' : Int} (ht : a < x → am_ex K B (B t) L S h Q) (hf : ¬ a < x → am_ex K B (B f) L S h Q) : am_ex K B ((18, pc, c, ns) :: (25, pc', c', [2, t, f]) :: is) L (.inr (.inl x) :: .inr (.inl a) :: S) h Q := ex_18 (ex_if2 (fun g => ht (by unfold am_cm at g; split at g <;> (try split at g) <;> omega)) (fun g => hf (by unfold am_cm at g; split at g <;> (try split at g) <;> omega)))
theorem ex_lc3 {pc' : Nat} {c' : Int} (ht : x ≤ a → am_ex K B (B t) L S h Q) (hf : ¬ x ≤ a → am_ex K B (B f) L S h Q) : am_ex K B ((18, pc, c, ns) :: (25, pc', c', [3, t, f]) :: is) L (.inr (.inl x) :: .inr (.inl a) :: S) h Q := ex_18 (ex_if3 (fun g => ht (by unfold am_cm at g; split at g <;> (try split at g) <;> omega)) (fun g => hf (by unfold am_cm at g; split at g <;> (try split at g) <;> omega)))
theorem ex_lc4 {pc' : Nat} {c' : Int} (ht : x < a → am_ex K B (B t) L S h Q) (hf : ¬ x < a → am_ex K B (B f) L S h Q) : am_ex K B ((18, pc, c, ns) :: (25, pc', c', [4, t, f]) :: is) L (.inr (.inl x) :: .inr (.inl a) :: S) h Q := ex_18 (ex_if4 (fun g => ht (by unfold am_cm at g; split at g <;> (try split at g) <;> omega)) (fun g => hf (by unfold am_cm at g; split at g <;> (try split at g) <;> omega)))
theorem ex_lc5 {pc' : Nat} {c' : Int} (ht : a ≤ x → am_ex K B (B t) L S h Q) (hf : ¬ a ≤ x → am_ex K B (B f) L S h Q) : am_ex K B ((18, pc, c, ns) :: (25, pc', c', [5, t, f]) :: is) L (.inr (.inl x) :: .inr (.inl a) :: S) h Q := ex_18 (ex_if5 (fun g => ht (by unfold am_cm at g; split at g <;> (try split at g) <;> omega)) (fun g => hf (by unfold am_cm at g; split at g <;> (try split at g) <;> omega)))
end IX
/-- a loop that counts up: what it does to its state, f times by the counter -/
def am_it {σ : Type} (f : Nat → σ → σ) : Nat → Nat → σ → σ
  | 0, _, s => s
  | k + 1, i, s => am_it f k (i + 1) (f i s)
theorem am_it_succ {σ : Type} (f : Nat → σ → σ) : ∀ (k i : Nat) (s : σ), am_it f (k + 1) i s = f (i + k) (am_it f k i s)
  | 0, _, _ => rfl
  | k + 1, i, s => by
    show am_it f (k + 1) (i + 1) (f i s) = _
    rw [am_it_succ f k (i + 1) (f i s), show i + 1 + k = i + (k + 1) by omega]
    rfl
theorem am_it_inv {σ : Type} {f : Nat → σ → σ} {inv : Nat → σ → Prop} {N : Nat} (hs : ∀ i s, i < N → inv i s → inv (i + 1) (f i s)) : ∀ (k i : Nat) (s : σ), i + k = N → inv i s → inv N (am_it f k i s)
  | 0, i, s, e, h => by
    have : i = N := by omega
    subst this; exact h
  | k + 1, i, s, e, h => am_it_inv hs k (i + 1) (f i s) (by omega) (hs i s (by omega) h)
theorem ex_for {σ : Type} {K : Nat → List am_V → am_H → Option am_O} {B : Nat → List am_I} {b : Nat} {Q : am_O → Prop} (N : Nat) (f : Nat → σ → σ) (inv : Nat → σ → Prop) (Lf : Nat → σ → am_L) (hf : Nat → σ → am_H)
    (hv : ∀ i s, i < N → inv i s → inv (i + 1) (f i s))
    (hs : ∀ i s, i < N → inv i s → am_ex K B (B b) (Lf (i + 1) (f i s)) [] (hf (i + 1) (f i s)) Q → am_ex K B (B b) (Lf i s) [] (hf i s) Q) : ∀ (k i : Nat) (s : σ), i + k = N → inv i s → (inv N (am_it f k i s) → am_ex K B (B b) (Lf N (am_it f k i s)) [] (hf N (am_it f k i s)) Q) → am_ex K B (B b) (Lf i s) [] (hf i s) Q
  | 0, i, s, e, h, z => by
    have : i = N := by omega
    subst this; exact z h
  | k + 1, i, s, e, h, z => hs i s (by omega) h (ex_for N f inv Lf hf hv hs k (i + 1) (f i s) (by omega) (hv i s (by omega) h) z)
theorem ex_forE {σ : Type} {K : Nat → List am_V → am_H → Option am_O} {B : Nat → List am_I} {b : Nat} {Q : am_O → Prop} (N : Nat) (f : Nat → σ → σ) (inv : Nat → σ → Prop) (Lf : Nat → σ → (Nat → Option am_V) → am_L) (hf : Nat → σ → am_H)
    (hv : ∀ i s, i < N → inv i s → inv (i + 1) (f i s))
    (hs : ∀ i s e, i < N → inv i s → ∀ s', s' = f i s → (∀ e', am_ex K B (B b) (Lf (i + 1) s' e') [] (hf (i + 1) s') Q) → am_ex K B (B b) (Lf i s e) [] (hf i s) Q) : ∀ (k i : Nat) (s : σ) (e : Nat → Option am_V), i + k = N → inv i s → (∀ s' e', s' = am_it f k i s → inv N s' → am_ex K B (B b) (Lf N s' e') [] (hf N s') Q) → am_ex K B (B b) (Lf i s e) [] (hf i s) Q
  | 0, i, s, e, g, h, z => by
    have : i = N := by omega
    subst this; exact z s e rfl h
  | k + 1, i, s, e, g, h, z => hs i s e (by omega) h (f i s) rfl (fun e' => ex_forE N f inv Lf hf hv hs k (i + 1) (f i s) e' (by omega) (hv i s (by omega) h) z)
theorem ex_forH {σ : Type} {K : Nat → List am_V → am_H → Option am_O} {B : Nat → List am_I} {b : Nat} {Q : am_O → Prop} {L : am_L} {h : am_H} (N : Nat) (f : Nat → σ → σ) (inv : Nat → σ → Prop) (Lf : Nat → σ → (Nat → Option am_V) → am_L) (hf : Nat → σ → am_H)
    (hv : ∀ i s, i < N → inv i s → inv (i + 1) (f i s))
    (hs : ∀ i s e, i < N → inv i s → ∀ s', s' = f i s → (∀ e', am_ex K B (B b) (Lf (i + 1) s' e') [] (hf (i + 1) s') Q) → am_ex K B (B b) (Lf i s e) [] (hf i s) Q) (k i : Nat) (s : σ) (e : Nat → Option am_V) (g : i + k = N) (h0 : inv i s) (hL : L = Lf i s e) (hh : h = hf i s) (z : ∀ s' e', s' = am_it f k i s → inv N s' → am_ex K B (B b) (Lf N s' e') [] (hf N s') Q) : am_ex K B (B b) L [] h Q := by
  subst hL; subst hh
  exact ex_forE N f inv Lf hf hv hs k i s e g h0 z
theorem bv_of (x : Nat) : (Int32.ofInt x).toBitVec = BitVec.ofNat 32 x := BitVec.ofInt_natCast 32 x
theorem bv_toInt {v : BitVec 32} {n : Nat} (h : v.toNat = n) (hn : n < 2 ^ 31) : v.toInt = (n : Int) := by
  rw [BitVec.toInt_eq_toNat_cond, h, if_pos (by omega)]
theorem bv_31 (k : Nat) (hk : k < 32) : (Int32.ofInt k &&& 31) = Int32.ofInt k := by
  have : ∀ k, k < 32 → (Int32.ofInt (k : Nat) &&& 31) = Int32.ofInt k := by decide +kernel
  exact this k hk
theorem bv_smod (k : Nat) (hk : k < 32) : (BitVec.ofNat 32 k).smod 32 = BitVec.ofNat 32 k := by
  have : ∀ k, k < 32 → (BitVec.ofNat 32 k).smod 32 = BitVec.ofNat 32 k := by decide +kernel
  exact this k hk
theorem am_and {a b : Nat} (ha : a < 2 ^ 31) (hb : b < 2 ^ 31) : am_b2 3 a b = ((a &&& b : Nat) : Int) := by
  show (Int32.ofInt a &&& Int32.ofInt b).toBitVec.toInt = _
  refine bv_toInt ?_ (Nat.and_lt_two_pow _ hb)
  rw [Int32.toBitVec_and, bv_of, bv_of, BitVec.toNat_and, BitVec.toNat_ofNat, BitVec.toNat_ofNat, Nat.mod_eq_of_lt (by omega), Nat.mod_eq_of_lt (by omega)]
theorem am_or {a b : Nat} (ha : a < 2 ^ 31) (hb : b < 2 ^ 31) : am_b2 4 a b = ((a ||| b : Nat) : Int) := by
  show (Int32.ofInt a ||| Int32.ofInt b).toBitVec.toInt = _
  refine bv_toInt ?_ (Nat.or_lt_two_pow ha hb)
  rw [Int32.toBitVec_or, bv_of, bv_of, BitVec.toNat_or, BitVec.toNat_ofNat, BitVec.toNat_ofNat, Nat.mod_eq_of_lt (by omega), Nat.mod_eq_of_lt (by omega)]
theorem am_xor {a b : Nat} (ha : a < 2 ^ 31) (hb : b < 2 ^ 31) : am_b2 5 a b = ((a ^^^ b : Nat) : Int) := by
  show (Int32.ofInt a ^^^ Int32.ofInt b).toBitVec.toInt = _
  refine bv_toInt ?_ (Nat.xor_lt_two_pow ha hb)
  rw [Int32.toBitVec_xor, bv_of, bv_of, BitVec.toNat_xor, BitVec.toNat_ofNat, BitVec.toNat_ofNat, Nat.mod_eq_of_lt (by omega), Nat.mod_eq_of_lt (by omega)]
theorem am_shl {a k : Nat} (hk : k < 32) (ha : a <<< k < 2 ^ 31) : am_b2 6 a k = ((a <<< k : Nat) : Int) := by
  show (Int32.ofInt a <<< (Int32.ofInt k &&& 31)).toInt = _
  rw [bv_31 k hk]
  show (Int32.ofInt a <<< Int32.ofInt k).toBitVec.toInt = _
  refine bv_toInt ?_ ha
  rw [Int32.toBitVec_shiftLeft, bv_of, bv_of, bv_smod k hk, BitVec.shiftLeft_eq', BitVec.toNat_shiftLeft, BitVec.toNat_ofNat, BitVec.toNat_ofNat, Nat.mod_eq_of_lt (a := k) (by omega)]
  have h1 : a ≤ a <<< k := Nat.le_shiftLeft
  rw [Nat.mod_eq_of_lt (a := a) (by omega), Nat.mod_eq_of_lt (by omega)]
theorem am_shr {a k : Nat} (hk : k < 32) (ha : a < 2 ^ 31) : am_b2 7 a k = ((a >>> k : Nat) : Int) := by
  show (Int32.ofInt a >>> (Int32.ofInt k &&& 31)).toInt = _
  rw [bv_31 k hk]
  show (Int32.ofInt a >>> Int32.ofInt k).toBitVec.toInt = _
  refine bv_toInt ?_ (Nat.lt_of_le_of_lt (Nat.shiftRight_le _ _) ha)
  have m : (BitVec.ofNat 32 a).msb = false := by
    rw [BitVec.msb_eq_decide, BitVec.toNat_ofNat, Nat.mod_eq_of_lt (by omega)]
    simp; omega
  rw [Int32.toBitVec_shiftRight, bv_of, bv_of, bv_smod k hk]
  show ((BitVec.ofNat 32 a).sshiftRight (BitVec.ofNat 32 k).toNat).toNat = _
  rw [BitVec.sshiftRight_eq_of_msb_false m, BitVec.toNat_ushiftRight, BitVec.toNat_ofNat, BitVec.toNat_ofNat, Nat.mod_eq_of_lt (a := k) (by omega), Nat.mod_eq_of_lt (a := a) (by omega)]
theorem am_not {a : Nat} (ha : a < 2 ^ 31) : am_b2 5 a (-1) = -1 - (a : Int) := by
  show (Int32.ofInt a ^^^ Int32.ofInt (-1)).toBitVec.toInt = _
  rw [Int32.toBitVec_xor, bv_of]
  have e : (Int32.ofInt (-1)).toBitVec = BitVec.allOnes 32 := by decide
  rw [e, BitVec.xor_allOnes, BitVec.toInt_eq_toNat_cond, BitVec.toNat_not, BitVec.toNat_ofNat, Nat.mod_eq_of_lt (by omega), if_neg (by omega)]
  omega
theorem am_andn {a b : Nat} (ha : a < 2 ^ 31) (hb : b < 2 ^ 31) : am_b2 3 a (-1 - (b : Int)) = ((a &&& (a ^^^ b) : Nat) : Int) := by
  rw [← am_not hb]
  show (Int32.ofInt a &&& Int32.ofInt (Int32.ofInt b ^^^ Int32.ofInt (-1)).toInt).toBitVec.toInt = _
  rw [Int32.ofInt_toInt]
  refine bv_toInt ?_ (Nat.lt_of_le_of_lt Nat.and_le_left ha)
  have e : (Int32.ofInt (-1)).toBitVec = BitVec.allOnes 32 := by decide
  rw [Int32.toBitVec_and, Int32.toBitVec_xor, e, BitVec.xor_allOnes, bv_of, bv_of]
  have e2 : ∀ x y : BitVec 32, x &&& ~~~ y = x &&& (x ^^^ y) := by
    intro x y
    apply BitVec.eq_of_getLsbD_eq
    intro i hi
    simp [hi]
    cases x[i] <;> cases y[i] <;> rfl
  rw [e2, BitVec.toNat_and, BitVec.toNat_xor, BitVec.toNat_ofNat, BitVec.toNat_ofNat, Nat.mod_eq_of_lt (by omega), Nat.mod_eq_of_lt (by omega)]
