/-! ===== the log, kept by both sides ===== -/
def kpl (x : De) (l : List De) : List De := (x :: l).take 16
def dz : De := (0, 0, 0)
theorem kpl_len {x : De} {l : List De} (h : l.length ≤ 16) : (kpl x l).length = rem_n l.length := by
  unfold kpl rem_n
  rw [List.length_take, List.length_cons]
  split <;> omega
theorem kpl_0 {x : De} {l : List De} : (kpl x l).getD 0 dz = x := rfl
theorem getD_take {m : Nat} : ∀ (i : Nat) (l : List De), i < m → (l.take m).getD i dz = l.getD i dz := by
  induction m with
  | zero => intro i l h; exact absurd h (by omega)
  | succ m ih =>
    intro i l h
    cases l with
    | nil => rfl
    | cons x l =>
      cases i with
      | zero => rfl
      | succ i => exact ih i l (by omega)
theorem kpl_s {x : De} {l : List De} {i : Nat} (h : i < 15) : (kpl x l).getD (i + 1) dz = l.getD i dz := getD_take (m := 15) i l h
/-- the class's log: a ring -/
def CLg (I : Nat → Nat → Int) (l : List De) : Prop := l.length ≤ 16 ∧ I 84 4 = (l.length : Int) ∧ ∃ nx : Nat, nx < 16 ∧ I 84 3 = (nx : Int) ∧ ∀ i, i < l.length → I 85 ((nx + 15 - i) % 16) = (l.getD i dz).1 ∧ I 86 ((nx + 15 - i) % 16) = (l.getD i dz).2.1 ∧ I 87 ((nx + 15 - i) % 16) = (l.getD i dz).2.2
theorem CLg_fr {I J : Nat → Nat → Int} {l : List De} (h : CLg I l) (hf : ∀ q k, 84 ≤ q → q ≤ 87 → J q k = I q k) : CLg J l := by
  obtain ⟨h1, h2, nx, h3, h4, h5⟩ := h
  refine ⟨h1, (hf _ _ (by decide) (by decide)).trans h2, nx, h3, (hf _ _ (by decide) (by decide)).trans h4, fun i hi => ?_⟩
  rw [hf _ _ (by decide) (by decide), hf _ _ (by decide) (by decide), hf _ _ (by decide) (by decide)]
  exact h5 i hi
theorem CLg_clr {I J : Nat → Nat → Int} {l : List De} (h : CLg I l) (h3 : J 84 3 = I 84 3) (h4 : J 84 4 = 0) : CLg J [] := by
  obtain ⟨_, _, nx, a, b, _⟩ := h
  exact ⟨by decide, h4, nx, a, h3.trans b, fun i hi => absurd hi (by show ¬ i < 0; omega)⟩
theorem CLg_deed {I J : Nat → Nat → Int} {l : List De} {nx : Nat} {d w b : Int} (hl : l.length ≤ 16) (h3 : nx < 16) (h5 : ∀ i, i < l.length → I 85 ((nx + 15 - i) % 16) = (l.getD i dz).1 ∧ I 86 ((nx + 15 - i) % 16) = (l.getD i dz).2.1 ∧ I 87 ((nx + 15 - i) % 16) = (l.getD i dz).2.2) (hk : LGk I J 84 nx l.length d w b) : CLg J (kpl (d, w, b) l) := by
  obtain ⟨k1, k2, k3, k4, k5⟩ := hk
  have k1 : ∀ j, J 85 j = am_u1 (I 85) nx d j := k1
  have k2 : ∀ j, J 86 j = am_u1 (I 86) nx w j := k2
  have k3 : ∀ j, J 87 j = am_u1 (I 87) nx b j := k3
  have hlen := kpl_len (x := (d, w, b)) hl
  have hr : rem_n l.length ≤ 16 ∧ rem_n l.length ≤ l.length + 1 := by unfold rem_n; split <;> omega
  refine ⟨by omega, by rw [hlen]; exact k5, (nx + 1) % 16, Nat.mod_lt _ (by decide), k4, fun i hi => ?_⟩
  rw [hlen] at hi
  rw [k1, k2, k3]
  unfold am_u1
  cases i with
  | zero =>
    have e : ((nx + 1) % 16 + 15 - 0) % 16 = nx := by omega
    rw [if_pos e, if_pos e, if_pos e, kpl_0]
    exact ⟨rfl, rfl, rfl⟩
  | succ i =>
    have e : ((nx + 1) % 16 + 15 - (i + 1)) % 16 = (nx + 15 - i) % 16 := by omega
    have e2 : ¬ (nx + 15 - i) % 16 = nx := by omega
    rw [e, if_neg e2, if_neg e2, if_neg e2, kpl_s (by omega)]
    exact h5 i (by omega)
theorem CLg_undo {I J : Nat → Nat → Int} {l : List De} {x : De} {nx : Nat} (hl : (x :: l).length ≤ 16) (h3 : nx < 16) (h5 : ∀ i, i < (x :: l).length → I 85 ((nx + 15 - i) % 16) = ((x :: l).getD i dz).1 ∧ I 86 ((nx + 15 - i) % 16) = ((x :: l).getD i dz).2.1 ∧ I 87 ((nx + 15 - i) % 16) = ((x :: l).getD i dz).2.2) (j3 : J 84 3 = (((nx + 15) % 16 : Nat) : Int)) (j4 : J 84 4 = (l.length : Int)) (hf : ∀ q k, 85 ≤ q → q ≤ 87 → J q k = I q k) : CLg J l := by
  have hl : l.length + 1 ≤ 16 := hl
  refine ⟨by omega, j4, (nx + 15) % 16, Nat.mod_lt _ (by decide), j3, fun i hi => ?_⟩
  have e : ((nx + 15) % 16 + 15 - i) % 16 = (nx + 15 - (i + 1)) % 16 := by omega
  rw [e, hf _ _ (by decide) (by decide), hf _ _ (by decide) (by decide), hf _ _ (by decide) (by decide)]
  exact h5 (i + 1) (by show i + 1 < l.length + 1; omega)
/-- the reference's log: snapshots -/
def MLg (I : Nat → Nat → Int) (ρ : Nat → Int) (l : List De) : Prop := l.length ≤ 16 ∧ I 208 8 = (l.length : Int) ∧ ∀ i, i < l.length → I 214 (l.length - 1 - i) = (l.getD i dz).1 ∧ ∀ j, j < 25 → I 213 (25 * (l.length - 1 - i) + j) = unw ρ l (i + 1) (5 + j)
theorem MLg_nil {I : Nat → Nat → Int} {ρ : Nat → Int} (h : I 208 8 = 0) : MLg I ρ [] := ⟨by decide, h, fun i hi => absurd hi (by show ¬ i < 0; omega)⟩
theorem MLg_deed {I J : Nat → Nat → Int} {ρ ρ' : Nat → Int} {l : List De} {x : De} (h : MLg I ρ l) (hu : und x.1 x.2.1 x.2.2 ρ' = ρ) (j3 : J 213 = rem_u ρ (I 213) l.length) (j4 : J 214 = rem_s (I 214) l.length x.1) (j8 : J 208 8 = (rem_n l.length : Int)) : MLg J ρ' (kpl x l) := by
  obtain ⟨hl, h8, h5⟩ := h
  have hlen := kpl_len (x := x) hl
  have hr : rem_n l.length ≤ 16 ∧ rem_n l.length ≤ l.length + 1 := by unfold rem_n; split <;> omega
  refine ⟨by omega, by rw [hlen]; exact j8, fun i hi => ?_⟩
  rw [hlen] at hi ⊢
  have eu : ∀ k, k < 16 → unw ρ' (kpl x l) (k + 1) = unw ρ l k := fun k hk => (unw_take (m := 16) (k + 1) ρ' (x :: l) (by omega)).trans (unw_deed hu)
  rw [eu i (by omega), j3, j4]
  unfold rem_u rem_s rem_n
  by_cases e16 : l.length = 16
  · rw [if_pos e16, if_pos e16, if_pos e16]
    cases i with
    | zero =>
      refine ⟨by rw [kpl_0]; unfold am_u1; rw [if_pos (by omega)], fun j hj => ?_⟩
      rw [unw_0, cp_in (by omega)]
      exact congrArg ρ (by omega)
    | succ i =>
      have hi15 : i + 1 < 16 := by omega
      obtain ⟨a, b⟩ := h5 i (by omega)
      refine ⟨?_, fun j hj => ?_⟩
      · rw [kpl_s (by omega)]
        unfold am_u1
        rw [if_neg (by omega), cp_in (by omega), ← a]
        exact congrArg (I 214) (by omega)
      · rw [cp_out (by omega), cp_in (by omega), ← b j hj]
        exact congrArg (I 213) (by omega)
  · have hl15 : l.length < 16 := by omega
    rw [if_neg e16, if_neg e16, if_neg e16]
    rw [show rem_n l.length = l.length + 1 by unfold rem_n; rw [if_neg e16]] at hi
    cases i with
    | zero =>
      refine ⟨by rw [kpl_0]; unfold am_u1; rw [if_pos (by omega)], fun j hj => ?_⟩
      rw [unw_0, cp_in (by omega)]
      exact congrArg ρ (by omega)
    | succ i =>
      obtain ⟨a, b⟩ := h5 i (by omega)
      refine ⟨?_, fun j hj => ?_⟩
      · rw [kpl_s (by omega)]
        unfold am_u1
        rw [if_neg (by omega), ← a]
        exact congrArg (I 214) (by omega)
      · rw [cp_out (by omega), ← b j hj]
        exact congrArg (I 213) (by omega)
theorem und_out {ρ : Nat → Int} {d w b : Int} {j : Nat} (he : eok d w b) (hj : j < 5 ∨ 30 ≤ j) : und d w b ρ j = ρ j := by
  unfold und
  rcases he with ⟨rfl, h1, h2, h3⟩ | ⟨rfl, h1, h2, h3⟩ | ⟨rfl, h3⟩ | ⟨rfl, h3⟩
  · rw [if_pos rfl]
    by_cases q : w < 5
    · rw [if_pos q]; unfold am_u1; rw [if_neg (by omega)]
    · rw [if_neg q]; unfold am_u1; rw [if_neg (by omega)]
  · rw [if_neg (by decide), if_pos rfl]; unfold am_u1; rw [if_neg (by omega)]
  · rw [if_neg (by decide), if_neg (by decide), if_pos rfl]; unfold am_u1; rw [if_neg (by omega)]
  · rw [if_neg (by decide), if_neg (by decide), if_neg (by decide)]; unfold am_u1; rw [if_neg (by omega), cp_out (by omega)]
/-- what is undone: the row and the log -/
theorem MLg_row {I : Nat → Nat → Int} {ρ : Nat → Int} {l : List De} {x : De} (h : MLg I ρ (x :: l)) (he : eok x.1 x.2.1 x.2.2) : am_cp (I 213) ρ (25 * l.length) 5 25 = und x.1 x.2.1 x.2.2 ρ := by
  obtain ⟨_, _, h5⟩ := h
  have hb := (h5 0 (by show 0 < l.length + 1; omega)).2
  funext j
  by_cases q : 5 ≤ j ∧ j < 5 + 25
  · rw [cp_in q]
    have e := hb (j - 5) (by omega)
    rw [show (x :: l).length - 1 - 0 = l.length by show l.length + 1 - 1 - 0 = l.length; omega] at e
    rw [e]
    show unw (und x.1 x.2.1 x.2.2 ρ) l 0 (5 + (j - 5)) = _
    rw [unw_0]
    exact congrArg (und x.1 x.2.1 x.2.2 ρ) (by omega)
  · rw [cp_out q]; exact (und_out he (by omega)).symm
theorem MLg_undo {I J : Nat → Nat → Int} {ρ : Nat → Int} {l : List De} {x : De} (h : MLg I ρ (x :: l)) (j8 : J 208 8 = (l.length : Int)) (j3 : J 213 = I 213) (j4 : J 214 = I 214) : MLg J (und x.1 x.2.1 x.2.2 ρ) l := by
  obtain ⟨h1, _, h5⟩ := h
  have h1 : l.length + 1 ≤ 16 := h1
  refine ⟨by omega, j8, fun i hi => ?_⟩
  obtain ⟨a, b⟩ := h5 (i + 1) (by show i + 1 < l.length + 1; omega)
  have e : (x :: l).length - 1 - (i + 1) = l.length - 1 - i := by show l.length + 1 - 1 - (i + 1) = _; omega
  rw [e] at a b
  rw [j3, j4]
  exact ⟨a, b⟩
