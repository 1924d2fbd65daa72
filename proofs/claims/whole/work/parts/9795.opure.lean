/-! ===== orders, pure: what is done, the log, one order once ===== -/
def rgE (ρ : Nat → Int) (f : Nat) : De := if ρ (15 + f) = 1 then (0, (f : Int) + 5, ρ (20 + f)) else (0, (f : Int), ρ (25 + f))
noncomputable def oact (ρ : Nat → Int) (n : Nat) (cl : Nat → Cl) (v : Nat) (a b : Int) : Option ((Nat → Int) × De × Int) :=
  if v = 0 then (@ite (Option ((Nat → Int) × De × Int)) (((0 ≤ a ∧ a < ρ 0) ∧ (0 ≤ b ∧ b < ρ 1)) ∧ m_can ρ n cl a.toNat b.toNat) (Classical.propDecidable _) (some (m_ringr ρ n cl a.toNat b.toNat, rgE ρ b.toNat, m_ringv ρ n cl a.toNat b.toNat)) none)
  else if v = 1 then (if 0 ≤ a ∧ a < ρ 1 then some (am_u1 ρ (15 + a.toNat) (1 - ρ (15 + a.toNat)), (1, a, ρ (15 + a.toNat)), 1 - ρ (15 + a.toNat)) else none)
  else if v = 2 then (if 0 ≤ a ∧ a < 6 then some (am_u1 ρ 8 (((ρ 8).toNat ^^^ 2 ^ a.toNat : Nat) : Int), (2, a, ρ 8), ((((ρ 8).toNat ^^^ 2 ^ a.toNat) >>> a.toNat &&& 1 : Nat) : Int)) else none)
  else (if ρ 5 < 999 then some (m_pass ρ n cl, (3, -1, ((pk ρ : Nat) : Int)), m_pass ρ n cl 5) else none)
theorem oact_0t {ρ : Nat → Int} {n : Nat} {cl : Nat → Cl} {a b : Int} (h : ((0 ≤ a ∧ a < ρ 0) ∧ (0 ≤ b ∧ b < ρ 1)) ∧ m_can ρ n cl a.toNat b.toNat) : oact ρ n cl 0 a b = some (m_ringr ρ n cl a.toNat b.toNat, rgE ρ b.toNat, m_ringv ρ n cl a.toNat b.toNat) := by unfold oact; rw [if_pos rfl]; exact if_pos h
theorem oact_0f {ρ : Nat → Int} {n : Nat} {cl : Nat → Cl} {a b : Int} (h : ¬ (((0 ≤ a ∧ a < ρ 0) ∧ (0 ≤ b ∧ b < ρ 1)) ∧ m_can ρ n cl a.toNat b.toNat)) : oact ρ n cl 0 a b = none := by unfold oact; rw [if_pos rfl]; exact if_neg h
theorem oact_1t {ρ : Nat → Int} {n : Nat} {cl : Nat → Cl} {a b : Int} (h : 0 ≤ a ∧ a < ρ 1) : oact ρ n cl 1 a b = some (am_u1 ρ (15 + a.toNat) (1 - ρ (15 + a.toNat)), (1, a, ρ (15 + a.toNat)), 1 - ρ (15 + a.toNat)) := by unfold oact; rw [if_neg (by decide), if_pos rfl, if_pos h]
theorem oact_1f {ρ : Nat → Int} {n : Nat} {cl : Nat → Cl} {a b : Int} (h : ¬ (0 ≤ a ∧ a < ρ 1)) : oact ρ n cl 1 a b = none := by unfold oact; rw [if_neg (by decide), if_pos rfl, if_neg h]
theorem oact_2t {ρ : Nat → Int} {n : Nat} {cl : Nat → Cl} {a b : Int} (h : 0 ≤ a ∧ a < 6) : oact ρ n cl 2 a b = some (am_u1 ρ 8 (((ρ 8).toNat ^^^ 2 ^ a.toNat : Nat) : Int), (2, a, ρ 8), ((((ρ 8).toNat ^^^ 2 ^ a.toNat) >>> a.toNat &&& 1 : Nat) : Int)) := by unfold oact; rw [if_neg (by decide), if_neg (by decide), if_pos rfl, if_pos h]
theorem oact_2f {ρ : Nat → Int} {n : Nat} {cl : Nat → Cl} {a b : Int} (h : ¬ (0 ≤ a ∧ a < 6)) : oact ρ n cl 2 a b = none := by unfold oact; rw [if_neg (by decide), if_neg (by decide), if_pos rfl, if_neg h]
theorem oact_3t {ρ : Nat → Int} {n : Nat} {cl : Nat → Cl} {a b : Int} (h : ρ 5 < 999) : oact ρ n cl 3 a b = some (m_pass ρ n cl, (3, -1, ((pk ρ : Nat) : Int)), m_pass ρ n cl 5) := by unfold oact; rw [if_neg (by decide), if_neg (by decide), if_neg (by decide), if_pos h]
theorem oact_3f {ρ : Nat → Int} {n : Nat} {cl : Nat → Cl} {a b : Int} (h : ¬ ρ 5 < 999) : oact ρ n cl 3 a b = none := by unfold oact; rw [if_neg (by decide), if_neg (by decide), if_neg (by decide), if_neg h]
theorem oact_v {ρ : Nat → Int} {n : Nat} {cl : Nat → Cl} {v : Nat} {a b : Int} {q : (Nat → Int) × De × Int} (hv : v < 4) (h : oact ρ n cl v a b = some q) : (v = 0 ∧ (((0 ≤ a ∧ a < ρ 0) ∧ (0 ≤ b ∧ b < ρ 1)) ∧ m_can ρ n cl a.toNat b.toNat) ∧ q = (m_ringr ρ n cl a.toNat b.toNat, rgE ρ b.toNat, m_ringv ρ n cl a.toNat b.toNat)) ∨ (v = 1 ∧ (0 ≤ a ∧ a < ρ 1) ∧ q = (am_u1 ρ (15 + a.toNat) (1 - ρ (15 + a.toNat)), (1, a, ρ (15 + a.toNat)), 1 - ρ (15 + a.toNat))) ∨ (v = 2 ∧ (0 ≤ a ∧ a < 6) ∧ q = (am_u1 ρ 8 (((ρ 8).toNat ^^^ 2 ^ a.toNat : Nat) : Int), (2, a, ρ 8), ((((ρ 8).toNat ^^^ 2 ^ a.toNat) >>> a.toNat &&& 1 : Nat) : Int))) ∨ (v = 3 ∧ ρ 5 < 999 ∧ q = (m_pass ρ n cl, (3, -1, ((pk ρ : Nat) : Int)), m_pass ρ n cl 5)) := by
  have hv4 : v = 0 ∨ v = 1 ∨ v = 2 ∨ v = 3 := by omega
  rcases hv4 with e | e | e | e
  · subst e
    by_cases c : ((0 ≤ a ∧ a < ρ 0) ∧ (0 ≤ b ∧ b < ρ 1)) ∧ m_can ρ n cl a.toNat b.toNat
    · rw [oact_0t c] at h; exact Or.inl ⟨rfl, c, (Option.some.inj h).symm⟩
    · rw [oact_0f c] at h; cases h
  · subst e
    by_cases c : 0 ≤ a ∧ a < ρ 1
    · rw [oact_1t c] at h; exact Or.inr (Or.inl ⟨rfl, c, (Option.some.inj h).symm⟩)
    · rw [oact_1f c] at h; cases h
  · subst e
    by_cases c : 0 ≤ a ∧ a < 6
    · rw [oact_2t c] at h; exact Or.inr (Or.inr (Or.inl ⟨rfl, c, (Option.some.inj h).symm⟩))
    · rw [oact_2f c] at h; cases h
  · subst e
    by_cases c : ρ 5 < 999
    · rw [oact_3t c] at h; exact Or.inr (Or.inr (Or.inr ⟨rfl, c, (Option.some.inj h).symm⟩))
    · rw [oact_3f c] at h; cases h
theorem rgE_und {ρ : Nat → Int} {n : Nat} {cl : Nat → Cl} {c f : Nat} (hf : f < 5) : und (rgE ρ f).1 (rgE ρ f).2.1 (rgE ρ f).2.2 (m_ringr ρ n cl c f) = ρ := by
  unfold rgE m_ringr
  by_cases e : ρ (15 + f) = 1
  · rw [if_pos e, if_pos e]; exact und_we
  · rw [if_neg e, if_neg e]; exact und_kn hf
theorem rgE_ok {ρ : Nat → Int} {f : Nat} (hR : RW ρ) (hf : f < 5) : eo3 (rgE ρ f) := by
  have hw := RW_we hR f hf
  have hk := RW_kn hR f hf
  unfold rgE
  by_cases e : ρ (15 + f) = 1
  · rw [if_pos e]
    refine ⟨Or.inl ⟨rfl, ?_, ?_, hw⟩, fun z => absurd (show (0 : Int) = 3 from z) (by decide)⟩
    · show 0 ≤ (f : Int) + 5; omega
    · show (f : Int) + 5 < 10; omega
  · rw [if_neg e]
    refine ⟨Or.inl ⟨rfl, ?_, ?_, hk⟩, fun z => absurd (show (0 : Int) = 3 from z) (by decide)⟩
    · show 0 ≤ (f : Int); omega
    · show (f : Int) < 10; omega
theorem oact_ok {ρ : Nat → Int} {n : Nat} {cl : Nat → Cl} {v : Nat} {a b : Int} {q : (Nat → Int) × De × Int} (hv : v < 4) (hR : RW ρ) (h5 : ρ 5 ≤ 999) (h : oact ρ n cl v a b = some q) : RW q.1 ∧ q.1 5 ≤ 999 ∧ und q.2.1.1 q.2.1.2.1 q.2.1.2.2 q.1 = ρ ∧ eo3 q.2.1 ∧ (0 ≤ q.2.2 ∧ q.2.2 ≤ 1000) ∧ (∀ j, (j < 5 ∨ 30 ≤ j) → q.1 j = ρ j) ∧ q.2.1.1 = (v : Int) := by
  have n1 := RW_n1 hR
  have h8 := RW_sm hR
  rcases oact_v hv h with ⟨e, c, rfl⟩ | ⟨e, c, rfl⟩ | ⟨e, c, rfl⟩ | ⟨e, c, rfl⟩
  · subst e
    have hb5 : b.toNat < 5 := by omega
    have hvb := m_ringv_b (ρ := ρ) (n := n) (cl := cl) (c := a.toNat) (f := b.toNat)
    refine ⟨RW_ringr hR hb5, ?_, rgE_und hb5, rgE_ok hR hb5, ?_, fun j hj => ringr_out hb5 (by omega), ?_⟩
    · show m_ringr ρ n cl a.toNat b.toNat 5 ≤ 999
      rw [ringr_out hb5 (by omega)]; exact h5
    · show 0 ≤ m_ringv ρ n cl a.toNat b.toNat ∧ m_ringv ρ n cl a.toNat b.toNat ≤ 1000
      omega
    · show (rgE ρ b.toNat).1 = ((0 : Nat) : Int)
      unfold rgE; split <;> rfl
  · subst e
    have ha5 : a.toNat < 5 := by omega
    have hen := RW_en hR _ ha5
    refine ⟨RWs_en hR ha5 (by omega), ?_, ?_, ⟨Or.inr (Or.inl ⟨rfl, c.1, ?_, hen⟩), fun z => absurd (show (1 : Int) = 3 from z) (by decide)⟩, ?_, fun j hj => ?_, rfl⟩
    · show am_u1 ρ _ _ 5 ≤ 999
      unfold am_u1; rw [if_neg (by omega)]; exact h5
    · have := und_en (ρ := ρ) (f := a.toNat) (v := 1 - ρ (15 + a.toNat))
      rw [Int.toNat_of_nonneg c.1] at this
      exact this
    · show a < 5; omega
    · show 0 ≤ 1 - ρ (15 + a.toNat) ∧ 1 - ρ (15 + a.toNat) ≤ 1000
      omega
    · show am_u1 ρ _ _ j = ρ j
      unfold am_u1; rw [if_neg (by omega)]
  · subst e
    have hx : (ρ 8).toNat ^^^ 2 ^ a.toNat < 2 ^ 6 := Nat.xor_lt_two_pow (by omega) (Nat.pow_lt_pow_right (by decide) (by omega))
    refine ⟨RWs_sm hR ⟨Int.natCast_nonneg _, by omega⟩, ?_, und_sm, ⟨Or.inr (Or.inr (Or.inl ⟨rfl, h8⟩)), fun z => absurd (show (2 : Int) = 3 from z) (by decide)⟩, ⟨Int.natCast_nonneg _, ?_⟩, fun j hj => ?_, rfl⟩
    · show am_u1 ρ 8 (((ρ 8).toNat ^^^ 2 ^ a.toNat : Nat) : Int) 5 ≤ 999
      unfold am_u1; rw [if_neg (by omega)]; exact h5
    · show ((((ρ 8).toNat ^^^ 2 ^ a.toNat) >>> a.toNat &&& 1 : Nat) : Int) ≤ 1000
      have := Nat.and_le_right (n := ((ρ 8).toNat ^^^ 2 ^ a.toNat) >>> a.toNat) (m := 1)
      omega
    · show am_u1 ρ 8 (((ρ 8).toNat ^^^ 2 ^ a.toNat : Nat) : Int) j = ρ j
      unfold am_u1; rw [if_neg (by omega)]
  · subst e
    have hn := RW_ni hR
    refine ⟨RW_pass hR (by omega), ?_, und_pass hR, eo3_pass hR, ?_, fun j hj => m_pass_out hR (by omega), rfl⟩
    · show m_pass ρ n cl 5 ≤ 999
      rw [m_pass_5]; omega
    · show 0 ≤ m_pass ρ n cl 5 ∧ m_pass ρ n cl 5 ≤ 1000
      rw [m_pass_5]; omega
/-- row and log are in order -/
def WR (ρ : Nat → Int) (lg : List De) : Prop := lg.length ≤ 16 ∧ (∀ i, i ≤ lg.length → RW (unw ρ lg i) ∧ unw ρ lg i 5 ≤ 999) ∧ (∀ i, i < lg.length → eo3 (lg.getD i dz))
theorem WR_0 {ρ : Nat → Int} {lg : List De} (h : WR ρ lg) : RW ρ ∧ ρ 5 ≤ 999 := by
  have := h.2.1 0 (Nat.zero_le _)
  rw [unw_0] at this
  exact this
theorem WR_clr {ρ : Nat → Int} (h : RW ρ) (h5 : ρ 5 ≤ 999) : WR ρ [] := by
  refine ⟨by decide, fun i hi => ?_, fun i hi => absurd hi (by show ¬ i < 0; omega)⟩
  have hi : i ≤ 0 := hi
  have e : i = 0 := by omega
  subst e
  exact ⟨h, h5⟩
theorem WR_deed {ρ ρ' : Nat → Int} {lg : List De} {x : De} (h : WR ρ lg) (hR : RW ρ') (h5 : ρ' 5 ≤ 999) (hu : und x.1 x.2.1 x.2.2 ρ' = ρ) (hx : eo3 x) : WR ρ' (kpl x lg) := by
  obtain ⟨h1, h2, h3⟩ := h
  have hlen := kpl_len (x := x) h1
  have hr : rem_n lg.length ≤ 16 ∧ rem_n lg.length ≤ lg.length + 1 := by unfold rem_n; split <;> omega
  refine ⟨by omega, fun i hi => ?_, fun i hi => ?_⟩
  · cases i with
    | zero => rw [unw_0]; exact ⟨hR, h5⟩
    | succ i =>
      rw [show unw ρ' (kpl x lg) (i + 1) = unw ρ lg i from (unw_take (m := 16) (i + 1) ρ' (x :: lg) (by omega)).trans (unw_deed hu)]
      exact h2 i (by omega)
  · cases i with
    | zero => rw [kpl_0]; exact hx
    | succ i => rw [kpl_s (by omega)]; exact h3 i (by omega)
theorem WR_undo {ρ : Nat → Int} {l : List De} {x : De} (h : WR ρ (x :: l)) : WR (und x.1 x.2.1 x.2.2 ρ) l := by
  obtain ⟨h1, h2, h3⟩ := h
  have h1 : l.length + 1 ≤ 16 := h1
  exact ⟨by omega, fun i hi => h2 (i + 1) (by show i + 1 ≤ l.length + 1; omega), fun i hi => h3 (i + 1) (by show i + 1 < l.length + 1; omega)⟩
/-- orders run: row, log; done, latest -/
abbrev Od : Type := ((Nat → Int) × List De) × Int × Int
def oone (o : Option Fn) (w : Nat → Int) : Option Int := match o with
  | none => some 0
  | some f => f w
def oso (o : Option Fn) (w : Nat → Int) : Prop := ∀ f, o = some f → f w = some 1
def oz (z : Od) : Nat → Int := oww z.1.1 (z.1.1 1).toNat z.2.1 z.2.2
noncomputable def ogo (n : Nat) (cl : Nat → Cl) (v : Nat) (z : Od) (a b : Option Int) : Option Od := match a, b with
  | some a, some b => (match oact z.1.1 n cl v a b with
    | some q => some ((q.1, kpl q.2.1 z.1.2), z.2.1 + 1, if v = 0 then q.2.2 else z.2.2)
    | none => none)
  | _, _ => none
noncomputable def orun (n : Nat) (cl : Nat → Cl) (oc : Oc) (z : Od) : Option Od := @ite (Option Od) (oso oc.2.2.2.2 (oz z)) (Classical.propDecidable _) (ogo n cl oc.1 z (oone oc.2.1 (oz z)) (oone oc.2.2.1 (oz z))) (some z)
theorem orun_f {n : Nat} {cl : Nat → Cl} {oc : Oc} {z : Od} (h : ¬ oso oc.2.2.2.2 (oz z)) : orun n cl oc z = some z := by unfold orun; exact if_neg h
theorem orun_t {n : Nat} {cl : Nat → Cl} {oc : Oc} {z : Od} (h : oso oc.2.2.2.2 (oz z)) : orun n cl oc z = ogo n cl oc.1 z (oone oc.2.1 (oz z)) (oone oc.2.2.1 (oz z)) := by unfold orun; exact if_pos h
theorem ogo_s {n : Nat} {cl : Nat → Cl} {v : Nat} {z : Od} {a b : Int} {q : (Nat → Int) × De × Int} (h : oact z.1.1 n cl v a b = some q) : ogo n cl v z (some a) (some b) = some ((q.1, kpl q.2.1 z.1.2), z.2.1 + 1, if v = 0 then q.2.2 else z.2.2) := by simp only [ogo, h]
theorem ogo_n {n : Nat} {cl : Nat → Cl} {v : Nat} {z : Od} {a b : Int} (h : oact z.1.1 n cl v a b = none) : ogo n cl v z (some a) (some b) = none := by simp only [ogo, h]
theorem ogo_1 {n : Nat} {cl : Nat → Cl} {v : Nat} {z : Od} {b : Option Int} : ogo n cl v z none b = none := by simp only [ogo]
theorem ogo_2 {n : Nat} {cl : Nat → Cl} {v : Nat} {z : Od} {a : Option Int} : ogo n cl v z a none = none := by cases a <;> simp only [ogo]
/-- what holds between orders -/
def OzI (ρ : Nat → Int) (c : Nat) (z : Od) : Prop := WR z.1.1 z.1.2 ∧ (∀ j, (j < 5 ∨ 30 ≤ j) → z.1.1 j = ρ j) ∧ (0 ≤ z.2.1 ∧ z.2.1 ≤ (c : Int)) ∧ (-1 ≤ z.2.2 ∧ z.2.2 ≤ 1000)
theorem OzI_go {ρ : Nat → Int} {n : Nat} {cl : Nat → Cl} {v c : Nat} {z : Od} {a b : Int} {q : (Nat → Int) × De × Int} (hv : v < 4) (h : OzI ρ c z) (hq : oact z.1.1 n cl v a b = some q) : OzI ρ (c + 1) ((q.1, kpl q.2.1 z.1.2), z.2.1 + 1, if v = 0 then q.2.2 else z.2.2) := by
  obtain ⟨h1, h2, h3, h4⟩ := h
  obtain ⟨q1, q2, q3, q4, q5, q6, -⟩ := oact_ok hv (WR_0 h1).1 (WR_0 h1).2 hq
  refine ⟨WR_deed h1 q1 q2 q3 q4, fun j hj => (q6 j hj).trans (h2 j hj), ?_, ?_⟩
  · show 0 ≤ z.2.1 + 1 ∧ z.2.1 + 1 ≤ ((c + 1 : Nat) : Int)
    omega
  · show -1 ≤ (if v = 0 then q.2.2 else z.2.2) ∧ (if v = 0 then q.2.2 else z.2.2) ≤ 1000
    split <;> omega
theorem OzI_mono {ρ : Nat → Int} {c c' : Nat} {z : Od} (h : OzI ρ c z) (hc : c ≤ c') : OzI ρ c' z := ⟨h.1, h.2.1, by have := h.2.2.1; omega, h.2.2.2⟩
theorem OzI_run {ρ : Nat → Int} {n : Nat} {cl : Nat → Cl} {oc : Oc} {c : Nat} {z z' : Od} (hv : oc.1 < 4) (h : OzI ρ c z) (hr : orun n cl oc z = some z') : OzI ρ (c + 1) z' := by
  by_cases hs : oso oc.2.2.2.2 (oz z)
  · rw [orun_t hs] at hr
    cases ha : oone oc.2.1 (oz z) with
    | none => rw [ha, ogo_1] at hr; cases hr
    | some a =>
      cases hb : oone oc.2.2.1 (oz z) with
      | none => rw [hb, ogo_2] at hr; cases hr
      | some b =>
        rw [ha, hb] at hr
        cases hq : oact z.1.1 n cl oc.1 a b with
        | none => rw [ogo_n hq] at hr; cases hr
        | some q => rw [ogo_s hq] at hr; cases hr; exact OzI_go hv h hq
  · rw [orun_f hs] at hr; cases hr; exact OzI_mono h (by omega)
theorem m_sum_b {ρ : Nat → Int} {a F : Nat} (hb : ∀ i, i < F → 0 ≤ ρ (a + i) ∧ ρ (a + i) ≤ 999) : 0 ≤ m_sum ρ a F ∧ m_sum ρ a F ≤ 999 * (F : Int) := by
  unfold m_sum
  refine am_it_inv (f := fun i s => s + ρ (a + i)) (inv := fun i s => 0 ≤ s ∧ s ≤ 999 * (i : Int)) (N := F) (fun i s hi h => ?_) F 0 0 (by omega) ⟨by decide, by decide⟩
  have := hb i hi
  show 0 ≤ s + ρ (a + i) ∧ s + ρ (a + i) ≤ 999 * ((i + 1 : Nat) : Int)
  omega
theorem okw_oz {ρ : Nat → Int} {c : Nat} {z : Od} (h : OzI ρ c z) (hc : c ≤ 1000) : okw (oz z) := by
  obtain ⟨h1, -, h3, h4⟩ := h
  have hR := (WR_0 h1).1
  have h5 := RW_ni hR
  have n0 := RW_n0 hR
  have n1 := RW_n1 hR
  have s1 := m_sum_b (ρ := z.1.1) (a := 25) (F := (z.1.1 1).toNat) (fun i hi => RW_kn hR i (by omega))
  have s2 := m_sum_b (ρ := z.1.1) (a := 20) (F := (z.1.1 1).toNat) (fun i hi => RW_we hR i (by omega))
  intro j
  unfold oz oww rkb
  by_cases e0 : j = 0
  · rw [if_pos e0]; omega
  rw [if_neg e0]
  by_cases e1 : j = 1
  · rw [if_pos e1]; omega
  rw [if_neg e1]
  by_cases e2 : j = 2
  · rw [if_pos e2]; omega
  rw [if_neg e2]
  by_cases e3 : j = 3
  · rw [if_pos e3]; omega
  rw [if_neg e3]
  by_cases e4 : j = 4
  · rw [if_pos e4]; omega
  rw [if_neg e4]
  by_cases e5 : j < 11
  · rw [if_pos e5]
    by_cases e6 : ((j - 5 : Nat) : Int) < z.1.1 0
    · rw [if_pos e6]
      have := RW_at hR (j - 5) (by omega)
      omega
    · rw [if_neg e6]; decide
  · rw [if_neg e5]
    by_cases e6 : ((j - 11 : Nat) : Int) < z.1.1 1
    · rw [if_pos e6]
      have := RW_en hR (j - 11) (by omega)
      omega
    · rw [if_neg e6]; decide
/-- one order, so many times; all orders -/
noncomputable def oT (n : Nat) (cl : Nat → Cl) (oc : Oc) : Nat → Od → Option Od
  | 0, z => some z
  | k + 1, z => match orun n cl oc z with
    | none => none
    | some z' => oT n cl oc k z'
noncomputable def oW (n : Nat) (cl : Nat → Cl) (c : Nat → Oc) : Nat → Nat → Od → Nat ⊕ Od
  | 0, _, z => .inr z
  | k + 1, i, z => match oT n cl (c i) (c i).2.2.2.1 z with
    | none => .inl i
    | some z' => oW n cl c k (i + 1) z'
theorem oT_n {n : Nat} {cl : Nat → Cl} {oc : Oc} {k : Nat} {z : Od} (h : orun n cl oc z = none) : oT n cl oc (k + 1) z = none := by simp only [oT, h]
theorem oT_s {n : Nat} {cl : Nat → Cl} {oc : Oc} {k : Nat} {z z' : Od} (h : orun n cl oc z = some z') : oT n cl oc (k + 1) z = oT n cl oc k z' := by simp only [oT, h]
theorem oW_n {n : Nat} {cl : Nat → Cl} {c : Nat → Oc} {k i : Nat} {z : Od} (h : oT n cl (c i) (c i).2.2.2.1 z = none) : oW n cl c (k + 1) i z = .inl i := by simp only [oW, h]
theorem oW_s {n : Nat} {cl : Nat → Cl} {c : Nat → Oc} {k i : Nat} {z z' : Od} (h : oT n cl (c i) (c i).2.2.2.1 z = some z') : oW n cl c (k + 1) i z = oW n cl c k (i + 1) z' := by simp only [oW, h]
/-- what a text of orders has -/
def OCok (oc : Oc) : Prop := oc.1 < 4 ∧ (oc.2.1 = none ↔ oc.1 = 3) ∧ (oc.2.2.1 = none ↔ ¬ oc.1 = 0) ∧ (1 ≤ oc.2.2.2.1 ∧ oc.2.2.2.1 ≤ 20)
