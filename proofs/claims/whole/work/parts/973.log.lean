/-! ===== the log: deeds, latest first ===== -/
abbrev De : Type := Int × Int × Int
/-- the row as it was before the first k deeds of the log -/
def unw : (Nat → Int) → List De → Nat → Nat → Int
  | ρ, _, 0 => ρ
  | ρ, [], _ + 1 => ρ
  | ρ, x :: l, k + 1 => unw (und x.1 x.2.1 x.2.2 ρ) l k
def eo3 (x : De) : Prop := eok x.1 x.2.1 x.2.2 ∧ (x.1 = 3 → ∀ i, i < 6 → x.2.2.toNat >>> (3 * i) &&& 7 < 6)
theorem cp_up {F ρ : Nat → Int} {i : Nat} : am_cp F ρ 0 9 (i + 1) = am_u1 (am_cp F ρ 0 9 i) (9 + i) (F i) := by
  funext j
  unfold am_u1
  by_cases e : j = 9 + i
  · rw [if_pos e, cp_in (by omega)]
    exact congrArg F (by omega)
  · rw [if_neg e]
    by_cases q : 9 ≤ j ∧ j < 9 + i
    · rw [cp_in q, cp_in (by omega)]
    · rw [cp_out q, cp_out (by omega)]
theorem RW_cp {F ρ : Nat → Int} (h : RW ρ) (hF : ∀ i, i < 6 → 0 ≤ F i ∧ F i < 6) : ∀ m, m ≤ 6 → RW (am_cp F ρ 0 9 m)
  | 0, _ => by
    have e : am_cp F ρ 0 9 0 = ρ := funext fun j => cp_out (by omega)
    rw [e]; exact h
  | m + 1, hm => by
    rw [cp_up]
    exact RWs_at (RW_cp h hF m (by omega)) (by omega) (hF m (by omega))
theorem RW_und {ρ : Nat → Int} {x : De} (h : RW ρ) (he : eo3 x) (h5 : x.1 = 3 → 1 ≤ ρ 5) : RW (und x.1 x.2.1 x.2.2 ρ) := by
  obtain ⟨d, w, b⟩ := x
  obtain ⟨he, h6⟩ := he
  have he : eok d w b := he
  have h6 : d = 3 → ∀ i, i < 6 → b.toNat >>> (3 * i) &&& 7 < 6 := h6
  have h5 : d = 3 → 1 ≤ ρ 5 := h5
  show RW (und d w b ρ)
  unfold und
  rcases he with ⟨rfl, h1, h2, h3⟩ | ⟨rfl, h1, h2, h3⟩ | ⟨rfl, h3⟩ | ⟨rfl, h3⟩
  · rw [if_pos rfl]
    by_cases q : w < 5
    · rw [if_pos q]; exact RWs_kn h (by omega) h3
    · rw [if_neg q]; exact RWs_we h (by omega) h3
  · rw [if_neg (by decide), if_pos rfl]; exact RWs_en h (by omega) h3
  · rw [if_neg (by decide), if_neg (by decide), if_pos rfl]; exact RWs_sm h h3
  · rw [if_neg (by decide), if_neg (by decide), if_neg (by decide)]
    have h5 := h5 rfl
    have hn := RW_ni h
    exact RWs_ni (RW_cp h (fun i hi => by have := h6 rfl i hi; omega) 6 (Nat.le_refl _)) (by omega)
theorem u1_back {ρ : Nat → Int} {k : Nat} {v : Int} : am_u1 (am_u1 ρ k v) k (ρ k) = ρ := by
  funext j
  unfold am_u1
  by_cases e : j = k
  · rw [if_pos e, e]
  · rw [if_neg e, if_neg e]
theorem und_kn {ρ : Nat → Int} {f : Nat} {v : Int} (hf : f < 5) : und 0 (f : Int) (ρ (25 + f)) (am_u1 ρ (25 + f) v) = ρ := by
  unfold und; rw [if_pos rfl, if_pos (by omega), Int.toNat_natCast]; exact u1_back
theorem und_we {ρ : Nat → Int} {f : Nat} {v : Int} : und 0 ((f : Int) + 5) (ρ (20 + f)) (am_u1 ρ (20 + f) v) = ρ := by
  unfold und; rw [if_pos rfl, if_neg (by omega), show ((f : Int) + 5 - 5).toNat = f by omega]; exact u1_back
theorem und_en {ρ : Nat → Int} {f : Nat} {v : Int} : und 1 (f : Int) (ρ (15 + f)) (am_u1 ρ (15 + f) v) = ρ := by
  unfold und; rw [if_neg (by decide), if_pos rfl, Int.toNat_natCast]; exact u1_back
theorem und_sm {ρ : Nat → Int} {w v : Int} : und 2 w (ρ 8) (am_u1 ρ 8 v) = ρ := by
  unfold und; rw [if_neg (by decide), if_neg (by decide), if_pos rfl]; exact u1_back
theorem und_pass {ρ : Nat → Int} {n : Nat} {cl : Nat → Cl} {w : Int} (h : RW ρ) : und 3 w ((pk ρ : Nat) : Int) (m_pass ρ n cl) = ρ := by
  unfold und
  rw [if_neg (by decide), if_neg (by decide), if_neg (by decide), Int.toNat_natCast]
  funext j
  unfold am_u1
  by_cases e : j = 5
  · rw [if_pos e, m_pass_5, e]; omega
  · rw [if_neg e]
    by_cases q : 9 ≤ j ∧ j < 9 + 6
    · rw [cp_in q]
      show (((pk ρ) >>> (3 * (0 + (j - 9))) &&& 7 : Nat) : Int) = ρ j
      rw [pk_at h (by omega)]
      exact congrArg ρ (by omega)
    · rw [cp_out q, m_pass_out h (by omega)]
theorem unw_0 {ρ : Nat → Int} {l : List De} : unw ρ l 0 = ρ := by cases l <;> rfl
/-- a deed is kept: the rows before it are the same -/
theorem unw_deed {ρ ρ' : Nat → Int} {x : De} {l : List De} {k : Nat} (h : und x.1 x.2.1 x.2.2 ρ' = ρ) : unw ρ' (x :: l) (k + 1) = unw ρ l k := by
  show unw (und x.1 x.2.1 x.2.2 ρ') l k = unw ρ l k
  rw [h]
theorem unw_take {m : Nat} : ∀ (k : Nat) (ρ : Nat → Int) (l : List De), k ≤ m → unw ρ (l.take m) k = unw ρ l k := by
  induction m with
  | zero =>
    intro k ρ l hk
    have : k = 0 := by omega
    subst this
    rw [unw_0, unw_0]
  | succ m ih =>
    intro k ρ l hk
    cases l with
    | nil => rfl
    | cons x l =>
      cases k with
      | zero => rw [unw_0, unw_0]
      | succ k =>
        show unw (und x.1 x.2.1 x.2.2 ρ) (l.take m) k = unw (und x.1 x.2.1 x.2.2 ρ) l k
        exact ih k _ l (by omega)
theorem eo3_pass {ρ : Nat → Int} (h : RW ρ) : eo3 (3, -1, ((pk ρ : Nat) : Int)) := by
  have hl := pk_l18 h
  refine ⟨Or.inr (Or.inr (Or.inr ⟨rfl, ?_, ?_⟩)), fun _ i hi => ?_⟩
  · show (0 : Int) ≤ ((pk ρ : Nat) : Int); omega
  · show ((pk ρ : Nat) : Int) < 262144; omega
  · show ((pk ρ : Nat) : Int).toNat >>> (3 * i) &&& 7 < 6
    rw [Int.toNat_natCast]
    have e := pk_at h hi
    have b := RW_at h i hi
    omega
