/-! ===== the class: a text worked out on a stack of thirty-two ===== -/
def ck (op arg : Nat → Int) (wv : Int → Int → Option Int) (last : Nat) : Nat → Nat → Nat → (Nat → Int) → Option (Option (Nat × (Nat → Int)))
  | 0, _, _, _ => none
  | f + 1, k, n, r =>
    if last ≤ k then some (some (n, r))
    else if op k < 20 then (if 0 ≤ op k ∧ n < 32 ∧ rkok (rkv wv (op k) (arg k)) = true then ck op arg wv last f (k + 1) (n + 1) (am_u1 r n ((rkv wv (op k) (arg k)).getD 0)) else none)
    else if op k < 28 then (if 2 ≤ n ∧ n ≤ 32 then (if ((op k = 23 ∨ op k = 24) ∧ r (n - 1) = 0) ∨ ¬ (-1000000000 ≤ m_rv (op k) (r (n - 2)) (r (n - 1)) ∧ m_rv (op k) (r (n - 2)) (r (n - 1)) ≤ 1000000000) then some none else ck op arg wv last f (k + 1) (n - 1) (am_u1 r (n - 2) (m_rv (op k) (r (n - 2)) (r (n - 1))))) else none)
    else if op k = 28 then (if (1 ≤ n ∧ n ≤ 32) ∧ (r (n - 1) = 0 ∨ r (n - 1) = 1) then ck op arg wv last f (k + 1) n (am_u1 r (n - 1) (1 - r (n - 1))) else none)
    else if (1 ≤ n ∧ n ≤ 32) ∧ (r (n - 1) = 0 ∨ r (n - 1) = 1) ∧ (k : Int) < arg k ∧ arg k ≤ (last : Int) then (if r (n - 1) = (if op k = 29 then 0 else 1) then ck op arg wv last f (arg k).toNat n r else ck op arg wv last f (k + 1) (n - 1) r) else none
def ckE (op arg : Nat → Int) (wv : Int → Int → Option Int) (last k n : Nat) (r : Nat → Int) (Q : Option (Nat × (Nat → Int)) → Prop) : Prop := ∃ f res, ck op arg wv last f k n r = some res ∧ Q res
section CK
variable {op arg : Nat → Int} {wv : Int → Int → Option Int} {last k n : Nat} {r : Nat → Int} {res : Option (Nat × (Nat → Int)) → Prop}
theorem ckE_end (h : last ≤ k) (q : res (some (n, r))) : ckE op arg wv last k n r res := ⟨1, _, by rw [ck, if_pos h], q⟩
theorem ckE_push {v : Int} (hk : k < last) (ho : 0 ≤ op k ∧ op k < 20) (hn : n < 32) (hv : rkv wv (op k) (arg k) = some v) (hb : rkb v) (h : ckE op arg wv last (k + 1) (n + 1) (am_u1 r n v) res) : ckE op arg wv last k n r res := by
  obtain ⟨f, re, e, q⟩ := h
  refine ⟨f + 1, re, ?_, q⟩
  rw [ck, if_neg (by omega), if_pos ho.2, if_pos ⟨ho.1, hn, by rw [hv]; exact decide_eq_true hb⟩, hv]
  exact e
theorem ckE_bin {m : Nat} (hk : k < last) (ho : 20 ≤ op k ∧ op k < 28) (hn : m + 2 ≤ 32) (hz : ¬ m_dz (op k) (r (m + 1))) (hb : rkb (m_rv (op k) (r m) (r (m + 1)))) (h : ckE op arg wv last (k + 1) (m + 1) (am_u1 r m (m_rv (op k) (r m) (r (m + 1)))) res) : ckE op arg wv last k (m + 2) r res := by
  obtain ⟨f, re, e, q⟩ := h
  refine ⟨f + 1, re, ?_, q⟩
  rw [ck, if_neg (by omega), if_neg (by omega), if_pos ho.2, if_pos ⟨by omega, hn⟩, show m + 2 - 1 = m + 1 by omega, show m + 2 - 2 = m by omega, if_neg]
  · exact e
  · rintro (z | z)
    · exact hz z
    · exact z hb
theorem ckE_bin0 {m : Nat} (hk : k < last) (ho : 20 ≤ op k ∧ op k < 28) (hn : m + 2 ≤ 32) (hz : m_dz (op k) (r (m + 1)) ∨ ¬ rkb (m_rv (op k) (r m) (r (m + 1)))) (q : res none) : ckE op arg wv last k (m + 2) r res := by
  refine ⟨1, none, ?_, q⟩
  rw [ck, if_neg (by omega), if_neg (by omega), if_pos ho.2, if_pos ⟨by omega, hn⟩, show m + 2 - 1 = m + 1 by omega, show m + 2 - 2 = m by omega]
  exact if_pos hz
theorem ckE_not {m : Nat} (hk : k < last) (ho : op k = 28) (hn : m + 1 ≤ 32) (h01 : r m = 0 ∨ r m = 1) (h : ckE op arg wv last (k + 1) (m + 1) (am_u1 r m (1 - r m)) res) : ckE op arg wv last k (m + 1) r res := by
  obtain ⟨f, re, e, q⟩ := h
  refine ⟨f + 1, re, ?_, q⟩
  rw [ck, if_neg (by omega), if_neg (by omega), if_neg (by omega), if_pos ho, show m + 1 - 1 = m by omega, if_pos ⟨⟨by omega, hn⟩, h01⟩]
  exact e
theorem ckE_jump {m c : Nat} (hk : k < last) (ho : op k = 29 ∨ op k = 30) (hn : m + 1 ≤ 32) (ha : arg k = (c : Int)) (hc : k < c ∧ c ≤ last) (h01 : r m = 0 ∨ r m = 1) (hj : r m = if op k = 29 then 0 else 1) (h : ckE op arg wv last c (m + 1) r res) : ckE op arg wv last k (m + 1) r res := by
  obtain ⟨f, re, e, q⟩ := h
  refine ⟨f + 1, re, ?_, q⟩
  rw [ck, if_neg (by omega), if_neg (by omega), if_neg (by omega), if_neg (by omega), show m + 1 - 1 = m by omega, if_pos ⟨⟨by omega, hn⟩, h01, by omega, by omega⟩, if_pos hj, ha, Int.toNat_natCast]
  exact e
theorem ckE_go {m c : Nat} (hk : k < last) (ho : op k = 29 ∨ op k = 30) (hn : m + 1 ≤ 32) (ha : arg k = (c : Int)) (hc : k < c ∧ c ≤ last) (h01 : r m = 0 ∨ r m = 1) (hj : ¬ r m = if op k = 29 then 0 else 1) (h : ckE op arg wv last (k + 1) m r res) : ckE op arg wv last k (m + 1) r res := by
  obtain ⟨f, re, e, q⟩ := h
  refine ⟨f + 1, re, ?_, q⟩
  rw [ck, if_neg (by omega), if_neg (by omega), if_neg (by omega), if_neg (by omega), show m + 1 - 1 = m by omega, if_pos ⟨⟨by omega, hn⟩, h01, by omega, by omega⟩, if_neg hj]
  exact e
end CK
/-- the code from a up to b comes to f (none: broken), within D places -/
def cseg (op arg : Nat → Int) (wv : Int → Int → Option Int) (a b D : Nat) (f : Option Int) : Prop := ∀ (last n : Nat) (r : Nat → Int) (res : Option (Nat × (Nat → Int)) → Prop), b ≤ last → last ≤ 400 → n + D ≤ 32 → (∀ v, f = some v → (∀ r', (∀ j, j < n → r' j = r j) → r' n = v → ckE op arg wv last b (n + 1) r' res) → ckE op arg wv last a n r res) ∧ (f = none → res none → ckE op arg wv last a n r res)
section CSEG
variable {op arg : Nat → Int} {wv : Int → Int → Option Int} {a b c D D' E : Nat} {f g : Option Int}
theorem ck_congr {op op' arg arg' : Nat → Int} {wv : Int → Int → Option Int} {last : Nat} (h : ∀ k, k < last → op' k = op k ∧ arg' k = arg k) : ∀ (f k n : Nat) (r : Nat → Int), ck op' arg' wv last f k n r = ck op arg wv last f k n r
  | 0, _, _, _ => rfl
  | f + 1, k, n, r => by
    rw [ck, ck]
    by_cases hk : last ≤ k
    · rw [if_pos hk, if_pos hk]
    · rw [if_neg hk, if_neg hk, (h k (by omega)).1, (h k (by omega)).2, ck_congr h f, ck_congr h f, ck_congr h f, ck_congr h f, ck_congr h f]
theorem cseg_congr {op' arg' : Nat → Int} (e : ∀ k, k < 400 → op' k = op k ∧ arg' k = arg k) (h : cseg op arg wv a b D f) : cseg op' arg' wv a b D f := by
  intro last n r res h1 h4 h2
  have key : ∀ k n r (Q : Option (Nat × (Nat → Int)) → Prop), ckE op' arg' wv last k n r Q ↔ ckE op arg wv last k n r Q := by
    intro k n r Q
    unfold ckE
    have : ∀ f, ck op' arg' wv last f k n r = ck op arg wv last f k n r := fun f => ck_congr (fun k hk => e k (by omega)) f k n r
    constructor
    · rintro ⟨f, res, e1, q⟩; exact ⟨f, res, by rw [← this f]; exact e1, q⟩
    · rintro ⟨f, res, e1, q⟩; exact ⟨f, res, by rw [this f]; exact e1, q⟩
  obtain ⟨g1, g2⟩ := h last n r res h1 h4 h2
  refine ⟨fun v hv z => (key _ _ _ _).mpr (g1 v hv (fun r' e1 e2 => (key _ _ _ _).mp (z r' e1 e2))), fun hv q => (key _ _ _ _).mpr (g2 hv q)⟩
theorem cseg_more (h : cseg op arg wv a b D f) (hD : D ≤ E) : cseg op arg wv a b E f := fun last n r res h1 h4 h2 => h last n r res h1 h4 (by omega)
theorem cseg_push {v : Int} (ho : 0 ≤ op a ∧ op a < 20) (hv : rkv wv (op a) (arg a) = some v) (hb : rkb v) : cseg op arg wv a (a + 1) 1 (some v) := by
  intro last n r res h1 h4 h2
  refine ⟨fun v' hv' z => ?_, fun z => (by cases z)⟩
  cases hv'
  refine ckE_push (by omega) ho (by omega) hv hb (z _ (fun j hj => ?_) ?_)
  · unfold am_u1; rw [if_neg (by omega)]
  · unfold am_u1; rw [if_pos rfl]
theorem cseg_bin (h1 : cseg op arg wv a b D f) (h2 : cseg op arg wv b c D' g) (ho : 20 ≤ op c ∧ op c < 28) (hbc : b ≤ c) (hD : 1 ≤ D') : cseg op arg wv a (c + 1) (max D (D' + 1)) (f_bin (op c) f g) := by
  intro last n r res hl h4 hn
  have hn1 : n + D ≤ 32 := by omega
  have hn2 : n + 1 + D' ≤ 32 := by omega
  cases f with
  | none =>
    refine ⟨fun v hv => ?_, fun _ q => (h1 last n r res (by omega) h4 hn1).2 rfl q⟩
    unfold f_bin at hv
    cases hv
  | some x =>
    cases g with
    | none =>
      refine ⟨fun v hv => ?_, fun _ q => (h1 last n r res (by omega) h4 hn1).1 x rfl (fun r' _ _ => (h2 last (n + 1) r' res (by omega) h4 hn2).2 rfl q)⟩
      unfold f_bin at hv
      cases hv
    | some y =>
      show (∀ v, m_rck (op c) x y = some v → _) ∧ (m_rck (op c) x y = none → _)
      have key : ∀ res', (∀ r'', (∀ j, j < n → r'' j = r j) → r'' n = x → r'' (n + 1) = y → ckE op arg wv last c (n + 2) r'' res') → ckE op arg wv last a n r res' := by
        intro res' z
        refine (h1 last n r res' (by omega) h4 hn1).1 x rfl (fun r' e1 e2 => ?_)
        refine (h2 last (n + 1) r' res' (by omega) h4 hn2).1 y rfl (fun r'' e3 e4 => ?_)
        exact z r'' (fun j hj => (e3 j (by omega)).trans (e1 j hj)) ((e3 n (by omega)).trans e2) e4
      unfold m_rck
      refine ⟨fun v hv z => ?_, fun hv q => ?_⟩
      · split at hv
        · cases hv
        · rename_i hq
          cases hv
          refine key res (fun r'' e1 e2 e3 => ?_)
          refine ckE_bin (by omega) ho (by omega) ?_ ?_ (z _ (fun j hj => ?_) ?_)
          · intro hz; apply hq; left; unfold m_dz at hz; rw [e3] at hz; exact hz
          · rw [e2, e3]; exact Classical.byContradiction fun q => hq (Or.inr q)
          · unfold am_u1; rw [if_neg (by omega)]; exact e1 j hj
          · unfold am_u1; rw [if_pos rfl, e2, e3]
      · split at hv
        · rename_i hq
          refine key res (fun r'' e1 e2 e3 => ckE_bin0 (by omega) ho (by omega) ?_ q)
          rw [e2, e3]
          exact hq
        · cases hv
theorem cseg_not (h1 : cseg op arg wv a b D f) (ho : op b = 28) (h01 : f_01 f) (hD : 1 ≤ D) : cseg op arg wv a (b + 1) D (f_not f) := by
  intro last n r res hl h4 hn
  refine ⟨fun v hv z => ?_, fun hv q => ?_⟩
  · cases f with
    | none => cases hv
    | some x =>
      cases hv
      refine (h1 last n r res (by omega) h4 hn).1 x rfl (fun r' e1 e2 => ?_)
      have hx : x = 0 ∨ x = 1 := by
        rcases h01 with h | h | h
        · cases h
        · cases h; exact Or.inl rfl
        · cases h; exact Or.inr rfl
      refine ckE_not (by omega) ho (by omega) (by rw [e2]; exact hx) (z _ (fun j hj => ?_) ?_)
      · unfold am_u1; rw [if_neg (by omega)]; exact e1 j hj
      · unfold am_u1; rw [if_pos rfl, e2]
  · cases f with
    | none => exact (h1 last n r res (by omega) h4 hn).2 rfl q
    | some x => cases hv
theorem cseg_and (h1 : cseg op arg wv a b D f) (h2 : cseg op arg wv (b + 1) c D' g) (ho : op b = 29) (ha : arg b = (c : Int)) (hbc : b < c) (h01 : f_01 f) (hD : 1 ≤ D) : cseg op arg wv a c (max D D') (f_and f g) := by
  intro last n r res hl h4 hn
  have hn1 : n + D ≤ 32 := by omega
  have hn2 : n + D' ≤ 32 := by omega
  rcases h01 with rfl | rfl | rfl
  · exact ⟨fun v hv => (by cases hv), fun _ q => (h1 last n r res (by omega) h4 hn1).2 rfl q⟩
  · refine ⟨fun v hv z => ?_, fun hv => (by cases hv)⟩
    have hv : some (0 : Int) = some v := hv
    cases hv
    refine (h1 last n r res (by omega) h4 hn1).1 0 rfl (fun r' e1 e2 => ?_)
    exact ckE_jump (by omega) (Or.inl ho) (by omega) ha ⟨hbc, hl⟩ (by omega) (by rw [if_pos ho, e2]) (z r' e1 e2)
  · have key : ∀ res', (∀ r', (∀ j, j < n → r' j = r j) → ckE op arg wv last (b + 1) n r' res') → ckE op arg wv last a n r res' := by
      intro res' z
      refine (h1 last n r res' (by omega) h4 hn1).1 1 rfl (fun r' e1 e2 => ?_)
      exact ckE_go (by omega) (Or.inl ho) (by omega) ha ⟨hbc, hl⟩ (by omega) (by rw [if_pos ho, e2]; decide) (z r' e1)
    show (∀ v, g = some v → _) ∧ (g = none → _)
    refine ⟨fun v hv z => ?_, fun hv q => ?_⟩
    · refine key res (fun r' e1 => (h2 last n r' res (by omega) h4 hn2).1 v hv (fun r'' e3 e4 => z r'' (fun j hj => (e3 j hj).trans (e1 j hj)) e4))
    · exact key res (fun r' e1 => (h2 last n r' res (by omega) h4 hn2).2 hv q)
theorem cseg_or (h1 : cseg op arg wv a b D f) (h2 : cseg op arg wv (b + 1) c D' g) (ho : op b = 30) (ha : arg b = (c : Int)) (hbc : b < c) (h01 : f_01 f) (hD : 1 ≤ D) : cseg op arg wv a c (max D D') (f_or f g) := by
  intro last n r res hl h4 hn
  have hn1 : n + D ≤ 32 := by omega
  have hn2 : n + D' ≤ 32 := by omega
  rcases h01 with rfl | rfl | rfl
  · exact ⟨fun v hv => (by cases hv), fun _ q => (h1 last n r res (by omega) h4 hn1).2 rfl q⟩
  · have key : ∀ res', (∀ r', (∀ j, j < n → r' j = r j) → ckE op arg wv last (b + 1) n r' res') → ckE op arg wv last a n r res' := by
      intro res' z
      refine (h1 last n r res' (by omega) h4 hn1).1 0 rfl (fun r' e1 e2 => ?_)
      exact ckE_go (by omega) (Or.inr ho) (by omega) ha ⟨hbc, hl⟩ (by omega) (by rw [if_neg (by omega), e2]; decide) (z r' e1)
    show (∀ v, g = some v → _) ∧ (g = none → _)
    refine ⟨fun v hv z => ?_, fun hv q => ?_⟩
    · refine key res (fun r' e1 => (h2 last n r' res (by omega) h4 hn2).1 v hv (fun r'' e3 e4 => z r'' (fun j hj => (e3 j hj).trans (e1 j hj)) e4))
    · exact key res (fun r' e1 => (h2 last n r' res (by omega) h4 hn2).2 hv q)
  · refine ⟨fun v hv z => ?_, fun hv => (by cases hv)⟩
    have hv : some (1 : Int) = some v := hv
    cases hv
    refine (h1 last n r res (by omega) h4 hn1).1 1 rfl (fun r' e1 e2 => ?_)
    exact ckE_jump (by omega) (Or.inr ho) (by omega) ha ⟨hbc, hl⟩ (by omega) (by rw [if_neg (by omega), e2]) (z r' e1 e2)
end CSEG
def opK (sg : Nat → Nat) (k : Nat) : Int := if sg k = 1 then 0 else if sg k = 2 then 1 else if sg k = 3 then 28 else if sg k = 4 then 29 else if sg k = 5 then 30 else if 6 ≤ sg k ∧ sg k ≤ 13 then (sg k : Int) + 14 else -1
def argK (tl : Nat → Nat) (k : Nat) : Int := (tl k : Int)
def wvC (w : Nat → Int) (nw : Nat) (o a : Int) : Option Int := if o = 1 ∧ 0 ≤ a ∧ a < (nw : Int) then some (w a.toNat) else none
def ckv (res : Option (Nat × (Nat → Int))) : Int := match res with
  | some p => if p.1 = 1 then p.2 0 else -2000000000
  | none => -2000000000
def jn (o a b : Int) : Int := (m_rck o a b).getD (-2000000000)
theorem jn_none {o a b : Int} (h : m_dz o b ∨ ¬ rkb (m_rv o a b)) : jn o a b = -2000000000 := by
  have e : m_rck o a b = none := if_pos h
  unfold jn; rw [e]; rfl
theorem ckv_t {n : Nat} {r : Nat → Int} (h : n = 1) : ckv (some (n, r)) = r 0 := if_pos h
theorem ckv_f {n : Nat} {r : Nat → Int} (h : ¬ n = 1) : ckv (some (n, r)) = -2000000000 := if_neg h
theorem jn_some {o a b : Int} (h1 : ¬ m_dz o b) (h2 : rkb (m_rv o a b)) : jn o a b = m_rv o a b := by
  unfold jn m_rck
  rw [if_neg]
  · rfl
  · rintro (z | z)
    · exact h1 z
    · exact z h2
theorem cd_and {t s : Nat} (hs : s < 16) (ht : t < 100000000) : am_b2 3 ((t * 16 + s : Nat) : Int) 15 = (s : Int) := by
  have := am_and (a := t * 16 + s) (b := 15) (by omega) (by decide)
  rw [show ((15 : Nat) : Int) = 15 from rfl] at this
  rw [this, show (t * 16 + s) &&& 15 = (t * 16 + s) % 16 from Nat.and_two_pow_sub_one_eq_mod _ 4]
  omega
theorem cd_shr {t s : Nat} (hs : s < 16) (ht : t < 100000000) : am_b2 7 ((t * 16 + s : Nat) : Int) 4 = (t : Int) := by
  have := am_shr (a := t * 16 + s) (k := 4) (by decide) (by omega)
  rw [show ((4 : Nat) : Int) = 4 from rfl] at this
  rw [this, Nat.shiftRight_eq_div_pow, show (2 : Nat) ^ 4 = 16 from rfl]
  omega
theorem k_jn_6 {d : Nat} {G : am_G} {I : Nat → Nat → Int} {P : Nat → Nat → Option Nat} {a b : Int} (ha : rkb a) (hb : rkb b) : am_call am_B am_M (d + 1) 97 [(.inl 6), (.inr (.inl a)), (.inr (.inl b))] (G, I, P) = some (some (.inl (jn 20 a b)), (G, I, P)) := by
  have ha : -1000000000 ≤ a ∧ a ≤ 1000000000 := ha
  have hb : -1000000000 ≤ b ∧ b ≤ 1000000000 := hb
  refine am_doL (L := [some (.inl 6), some (.inr (.inl a)), none, some (.inr (.inl b)), none, none, none]) (Nat.le_of_ble_eq_true rfl) rfl ?_
  refine (ex_4_0 (ex_29i 0 rfl rfl (ex_5_1 (ex_5_3 (ex_ladd ⟨by omega, by omega⟩ (ex_8_5 rfl (ex_28 (ex_5_5 (ex_1 ?_)))))))))
  refine ex_lc4 (fun hc159 => ?_) (fun hc159 => ?_)
  · refine (ex_0 (ex_28 ?_))
    exact ex_53 (by rw [jn_none (Or.inr (by rw [show m_rv 20 a b = a + b from rfl]; unfold rkb; omega))])
  · refine (ex_5_5 (ex_1 ?_))
    refine ex_lc3 (fun hc168 => ?_) (fun hc168 => ?_)
    · refine (ex_5_5 (ex_20 ⟨by omega, by omega⟩ (ex_58 ?_)))
      exact ex_53 (by rw [jn_some (by unfold m_dz; omega) (by rw [show m_rv 20 a b = a + b from rfl]; unfold rkb; omega), show m_rv 20 a b = a + b from rfl])
    · refine (ex_0 (ex_28 ?_))
      exact ex_53 (by rw [jn_none (Or.inr (by rw [show m_rv 20 a b = a + b from rfl]; unfold rkb; omega))])
theorem k_jn_7 {d : Nat} {G : am_G} {I : Nat → Nat → Int} {P : Nat → Nat → Option Nat} {a b : Int} (ha : rkb a) (hb : rkb b) : am_call am_B am_M (d + 1) 97 [(.inl 7), (.inr (.inl a)), (.inr (.inl b))] (G, I, P) = some (some (.inl (jn 21 a b)), (G, I, P)) := by
  have ha : -1000000000 ≤ a ∧ a ≤ 1000000000 := ha
  have hb : -1000000000 ≤ b ∧ b ≤ 1000000000 := hb
  refine am_doL (L := [some (.inl 7), some (.inr (.inl a)), none, some (.inr (.inl b)), none, none, none]) (Nat.le_of_ble_eq_true rfl) rfl ?_
  refine (ex_4_0 (ex_29i 1 rfl rfl (ex_5_1 (ex_5_3 (ex_lsub ⟨by omega, by omega⟩ (ex_8_5 rfl (ex_28 (ex_5_5 (ex_1 ?_)))))))))
  refine ex_lc4 (fun hc159 => ?_) (fun hc159 => ?_)
  · refine (ex_0 (ex_28 ?_))
    exact ex_53 (by rw [jn_none (Or.inr (by rw [show m_rv 21 a b = a - b from rfl]; unfold rkb; omega))])
  · refine (ex_5_5 (ex_1 ?_))
    refine ex_lc3 (fun hc168 => ?_) (fun hc168 => ?_)
    · refine (ex_5_5 (ex_20 ⟨by omega, by omega⟩ (ex_58 ?_)))
      exact ex_53 (by rw [jn_some (by unfold m_dz; omega) (by rw [show m_rv 21 a b = a - b from rfl]; unfold rkb; omega), show m_rv 21 a b = a - b from rfl])
    · refine (ex_0 (ex_28 ?_))
      exact ex_53 (by rw [jn_none (Or.inr (by rw [show m_rv 21 a b = a - b from rfl]; unfold rkb; omega))])
theorem k_jn_8 {d : Nat} {G : am_G} {I : Nat → Nat → Int} {P : Nat → Nat → Option Nat} {a b : Int} (ha : rkb a) (hb : rkb b) : am_call am_B am_M (d + 1) 97 [(.inl 8), (.inr (.inl a)), (.inr (.inl b))] (G, I, P) = some (some (.inl (jn 22 a b)), (G, I, P)) := by
  have ha : -1000000000 ≤ a ∧ a ≤ 1000000000 := ha
  have hb : -1000000000 ≤ b ∧ b ≤ 1000000000 := hb
  refine am_doL (L := [some (.inl 8), some (.inr (.inl a)), none, some (.inr (.inl b)), none, none, none]) (Nat.le_of_ble_eq_true rfl) rfl ?_
  refine (ex_4_0 (ex_29i 2 rfl rfl (ex_5_1 (ex_5_3 (ex_lmul ⟨by have := mul_b ha hb; omega, by have := mul_b ha hb; omega⟩ (ex_8_5 rfl (ex_28 (ex_5_5 (ex_1 ?_)))))))))
  refine ex_lc4 (fun hc159 => ?_) (fun hc159 => ?_)
  · refine (ex_0 (ex_28 ?_))
    exact ex_53 (by rw [jn_none (Or.inr (by rw [show m_rv 22 a b = a * b from rfl]; unfold rkb; omega))])
  · refine (ex_5_5 (ex_1 ?_))
    refine ex_lc3 (fun hc168 => ?_) (fun hc168 => ?_)
    · refine (ex_5_5 (ex_20 ⟨by omega, by omega⟩ (ex_58 ?_)))
      exact ex_53 (by rw [jn_some (by unfold m_dz; omega) (by rw [show m_rv 22 a b = a * b from rfl]; unfold rkb; omega), show m_rv 22 a b = a * b from rfl])
    · refine (ex_0 (ex_28 ?_))
      exact ex_53 (by rw [jn_none (Or.inr (by rw [show m_rv 22 a b = a * b from rfl]; unfold rkb; omega))])
theorem k_jn_9z {d : Nat} {G : am_G} {I : Nat → Nat → Int} {P : Nat → Nat → Option Nat} {a b : Int} (ha : rkb a) (hb : rkb b) (hz : b = 0) : am_call am_B am_M (d + 1) 97 [(.inl 9), (.inr (.inl a)), (.inr (.inl b))] (G, I, P) = some (some (.inl (jn 23 a b)), (G, I, P)) := by
  have ha : -1000000000 ≤ a ∧ a ≤ 1000000000 := ha
  have hb : -1000000000 ≤ b ∧ b ≤ 1000000000 := hb
  refine am_doL (L := [some (.inl 9), some (.inr (.inl a)), none, some (.inr (.inl b)), none, none, none]) (Nat.le_of_ble_eq_true rfl) rfl ?_
  refine (ex_4_0 (ex_29i 3 rfl rfl (ex_5_3 (ex_1 ?_))))
  refine ex_lc1 (fun hc71 => by exfalso; omega) (fun hc71 => ?_)
  refine (ex_1 (ex_28 (ex_8_5 rfl (ex_28 (ex_5_5 (ex_1 ?_))))))
  refine ex_lc4 (fun hc => by exfalso; revert hc; decide) (fun _ => ?_)
  refine (ex_5_5 (ex_1 ?_))
  refine ex_lc3 (fun hc => by exfalso; revert hc; decide) (fun _ => ?_)
  refine (ex_0 (ex_28 ?_))
  exact ex_53 (by rw [jn_none (Or.inl ⟨by decide, hz⟩)])
theorem k_jn_9 {d : Nat} {G : am_G} {I : Nat → Nat → Int} {P : Nat → Nat → Option Nat} {a b : Int} (ha : rkb a) (hb : rkb b) (hz : ¬ b = 0) : am_call am_B am_M (d + 1) 97 [(.inl 9), (.inr (.inl a)), (.inr (.inl b))] (G, I, P) = some (some (.inl (jn 23 a b)), (G, I, P)) := by
  have ha : -1000000000 ≤ a ∧ a ≤ 1000000000 := ha
  have hb : -1000000000 ≤ b ∧ b ≤ 1000000000 := hb
  refine am_doL (L := [some (.inl 9), some (.inr (.inl a)), none, some (.inr (.inl b)), none, none, none]) (Nat.le_of_ble_eq_true rfl) rfl ?_
  refine (ex_4_0 (ex_29i 3 rfl rfl (ex_5_3 (ex_1 ?_))))
  refine ex_lc1 (fun hc71 => ?_) (fun hc71 => by exfalso; omega)
  refine (ex_5_1 (ex_5_3 (ex_16 hz rfl (ex_58 (ex_8_5 rfl (ex_28 (ex_5_5 (ex_1 ?_))))))))
  refine ex_lc4 (fun hc159 => ?_) (fun hc159 => ?_)
  · refine (ex_0 (ex_28 ?_))
    exact ex_53 (by rw [jn_none (Or.inr (by rw [show m_rv 23 a b = am_d8 0 a b from rfl]; unfold rkb; omega))])
  · refine (ex_5_5 (ex_1 ?_))
    refine ex_lc3 (fun hc168 => ?_) (fun hc168 => ?_)
    · refine (ex_5_5 (ex_20 ⟨by omega, by omega⟩ (ex_58 ?_)))
      exact ex_53 (by rw [jn_some (fun z => hz z.2) (by rw [show m_rv 23 a b = am_d8 0 a b from rfl]; unfold rkb; omega), show m_rv 23 a b = am_d8 0 a b from rfl])
    · refine (ex_0 (ex_28 ?_))
      exact ex_53 (by rw [jn_none (Or.inr (by rw [show m_rv 23 a b = am_d8 0 a b from rfl]; unfold rkb; omega))])
theorem k_jn_10z {d : Nat} {G : am_G} {I : Nat → Nat → Int} {P : Nat → Nat → Option Nat} {a b : Int} (ha : rkb a) (hb : rkb b) (hz : b = 0) : am_call am_B am_M (d + 1) 97 [(.inl 10), (.inr (.inl a)), (.inr (.inl b))] (G, I, P) = some (some (.inl (jn 24 a b)), (G, I, P)) := by
  have ha : -1000000000 ≤ a ∧ a ≤ 1000000000 := ha
  have hb : -1000000000 ≤ b ∧ b ≤ 1000000000 := hb
  refine am_doL (L := [some (.inl 10), some (.inr (.inl a)), none, some (.inr (.inl b)), none, none, none]) (Nat.le_of_ble_eq_true rfl) rfl ?_
  refine (ex_4_0 (ex_29i 4 rfl rfl (ex_5_3 (ex_1 ?_))))
  refine ex_lc1 (fun hc91 => by exfalso; omega) (fun hc91 => ?_)
  refine (ex_1 (ex_28 (ex_8_5 rfl (ex_28 (ex_5_5 (ex_1 ?_))))))
  refine ex_lc4 (fun hc => by exfalso; revert hc; decide) (fun _ => ?_)
  refine (ex_5_5 (ex_1 ?_))
  refine ex_lc3 (fun hc => by exfalso; revert hc; decide) (fun _ => ?_)
  refine (ex_0 (ex_28 ?_))
  exact ex_53 (by rw [jn_none (Or.inl ⟨by decide, hz⟩)])
theorem k_jn_10 {d : Nat} {G : am_G} {I : Nat → Nat → Int} {P : Nat → Nat → Option Nat} {a b : Int} (ha : rkb a) (hb : rkb b) (hz : ¬ b = 0) : am_call am_B am_M (d + 1) 97 [(.inl 10), (.inr (.inl a)), (.inr (.inl b))] (G, I, P) = some (some (.inl (jn 24 a b)), (G, I, P)) := by
  have ha : -1000000000 ≤ a ∧ a ≤ 1000000000 := ha
  have hb : -1000000000 ≤ b ∧ b ≤ 1000000000 := hb
  refine am_doL (L := [some (.inl 10), some (.inr (.inl a)), none, some (.inr (.inl b)), none, none, none]) (Nat.le_of_ble_eq_true rfl) rfl ?_
  refine (ex_4_0 (ex_29i 4 rfl rfl (ex_5_3 (ex_1 ?_))))
  refine ex_lc1 (fun hc91 => ?_) (fun hc91 => by exfalso; omega)
  refine (ex_5_1 (ex_5_3 (ex_16 hz rfl (ex_58 (ex_8_5 rfl (ex_28 (ex_5_5 (ex_1 ?_))))))))
  refine ex_lc4 (fun hc159 => ?_) (fun hc159 => ?_)
  · refine (ex_0 (ex_28 ?_))
    exact ex_53 (by rw [jn_none (Or.inr (by rw [show m_rv 24 a b = am_d8 1 a b from rfl]; unfold rkb; omega))])
  · refine (ex_5_5 (ex_1 ?_))
    refine ex_lc3 (fun hc168 => ?_) (fun hc168 => ?_)
    · refine (ex_5_5 (ex_20 ⟨by omega, by omega⟩ (ex_58 ?_)))
      exact ex_53 (by rw [jn_some (fun z => hz z.2) (by rw [show m_rv 24 a b = am_d8 1 a b from rfl]; unfold rkb; omega), show m_rv 24 a b = am_d8 1 a b from rfl])
    · refine (ex_0 (ex_28 ?_))
      exact ex_53 (by rw [jn_none (Or.inr (by rw [show m_rv 24 a b = am_d8 1 a b from rfl]; unfold rkb; omega))])
theorem k_jn_11 {d : Nat} {G : am_G} {I : Nat → Nat → Int} {P : Nat → Nat → Option Nat} {a b : Int} (ha : rkb a) (hb : rkb b) : am_call am_B am_M (d + 1) 97 [(.inl 11), (.inr (.inl a)), (.inr (.inl b))] (G, I, P) = some (some (.inl (jn 25 a b)), (G, I, P)) := by
  have ha : -1000000000 ≤ a ∧ a ≤ 1000000000 := ha
  have hb : -1000000000 ≤ b ∧ b ≤ 1000000000 := hb
  refine am_doL (L := [some (.inl 11), some (.inr (.inl a)), none, some (.inr (.inl b)), none, none, none]) (Nat.le_of_ble_eq_true rfl) rfl ?_
  refine (ex_4_0 (ex_29i 5 rfl rfl (ex_5_1 (ex_5_3 ?_))))
  refine ex_lc3 (fun hc111 => ?_) (fun hc111 => ?_)
  · refine (ex_1 (ex_58 (ex_8_5 rfl (ex_28 (ex_5_5 (ex_1 ?_))))))
    refine ex_lc4 (fun hc => by exfalso; revert hc; decide) (fun _ => ?_)
    refine (ex_5_5 (ex_1 ?_))
    refine ex_lc3 (fun _ => ?_) (fun hc => by exfalso; revert hc; decide)
    refine (ex_5_5 (ex_20 ⟨by omega, by omega⟩ (ex_58 ?_)))
    exact ex_53 (by rw [jn_some (by unfold m_dz; omega) (by rw [show m_rv 25 a b = if a < b then 1 else 0 from rfl]; unfold rkb; split <;> omega), show m_rv 25 a b = if a < b then 1 else 0 from rfl, if_neg (by omega)])
  · refine (ex_1 (ex_28 (ex_8_5 rfl (ex_28 (ex_5_5 (ex_1 ?_))))))
    refine ex_lc4 (fun hc => by exfalso; revert hc; decide) (fun _ => ?_)
    refine (ex_5_5 (ex_1 ?_))
    refine ex_lc3 (fun _ => ?_) (fun hc => by exfalso; revert hc; decide)
    refine (ex_5_5 (ex_20 ⟨by omega, by omega⟩ (ex_58 ?_)))
    exact ex_53 (by rw [jn_some (by unfold m_dz; omega) (by rw [show m_rv 25 a b = if a < b then 1 else 0 from rfl]; unfold rkb; split <;> omega), show m_rv 25 a b = if a < b then 1 else 0 from rfl, if_pos (by omega)])
theorem k_jn_12 {d : Nat} {G : am_G} {I : Nat → Nat → Int} {P : Nat → Nat → Option Nat} {a b : Int} (ha : rkb a) (hb : rkb b) : am_call am_B am_M (d + 1) 97 [(.inl 12), (.inr (.inl a)), (.inr (.inl b))] (G, I, P) = some (some (.inl (jn 26 a b)), (G, I, P)) := by
  have ha : -1000000000 ≤ a ∧ a ≤ 1000000000 := ha
  have hb : -1000000000 ≤ b ∧ b ≤ 1000000000 := hb
  refine am_doL (L := [some (.inl 12), some (.inr (.inl a)), none, some (.inr (.inl b)), none, none, none]) (Nat.le_of_ble_eq_true rfl) rfl ?_
  refine (ex_4_0 (ex_29i 6 rfl rfl (ex_5_1 (ex_5_3 ?_))))
  refine ex_lc5 (fun hc127 => ?_) (fun hc127 => ?_)
  · refine (ex_1 (ex_58 (ex_8_5 rfl (ex_28 (ex_5_5 (ex_1 ?_))))))
    refine ex_lc4 (fun hc => by exfalso; revert hc; decide) (fun _ => ?_)
    refine (ex_5_5 (ex_1 ?_))
    refine ex_lc3 (fun _ => ?_) (fun hc => by exfalso; revert hc; decide)
    refine (ex_5_5 (ex_20 ⟨by omega, by omega⟩ (ex_58 ?_)))
    exact ex_53 (by rw [jn_some (by unfold m_dz; omega) (by rw [show m_rv 26 a b = if b < a then 1 else 0 from rfl]; unfold rkb; split <;> omega), show m_rv 26 a b = if b < a then 1 else 0 from rfl, if_neg (by omega)])
  · refine (ex_1 (ex_28 (ex_8_5 rfl (ex_28 (ex_5_5 (ex_1 ?_))))))
    refine ex_lc4 (fun hc => by exfalso; revert hc; decide) (fun _ => ?_)
    refine (ex_5_5 (ex_1 ?_))
    refine ex_lc3 (fun _ => ?_) (fun hc => by exfalso; revert hc; decide)
    refine (ex_5_5 (ex_20 ⟨by omega, by omega⟩ (ex_58 ?_)))
    exact ex_53 (by rw [jn_some (by unfold m_dz; omega) (by rw [show m_rv 26 a b = if b < a then 1 else 0 from rfl]; unfold rkb; split <;> omega), show m_rv 26 a b = if b < a then 1 else 0 from rfl, if_pos (by omega)])
theorem k_jn_13 {d : Nat} {G : am_G} {I : Nat → Nat → Int} {P : Nat → Nat → Option Nat} {a b : Int} (ha : rkb a) (hb : rkb b) : am_call am_B am_M (d + 1) 97 [(.inl 13), (.inr (.inl a)), (.inr (.inl b))] (G, I, P) = some (some (.inl (jn 27 a b)), (G, I, P)) := by
  have ha : -1000000000 ≤ a ∧ a ≤ 1000000000 := ha
  have hb : -1000000000 ≤ b ∧ b ≤ 1000000000 := hb
  refine am_doL (L := [some (.inl 13), some (.inr (.inl a)), none, some (.inr (.inl b)), none, none, none]) (Nat.le_of_ble_eq_true rfl) rfl ?_
  refine (ex_4_0 (ex_29o (by decide) (ex_5_1 (ex_5_3 ?_))))
  refine ex_lc1 (fun hc143 => ?_) (fun hc143 => ?_)
  · refine (ex_1 (ex_58 (ex_8_5 rfl (ex_58 (ex_5_5 (ex_1 ?_))))))
    refine ex_lc4 (fun hc => by exfalso; revert hc; decide) (fun _ => ?_)
    refine (ex_5_5 (ex_1 ?_))
    refine ex_lc3 (fun _ => ?_) (fun hc => by exfalso; revert hc; decide)
    refine (ex_5_5 (ex_20 ⟨by omega, by omega⟩ (ex_58 ?_)))
    exact ex_53 (by rw [jn_some (by unfold m_dz; omega) (by rw [show m_rv 27 a b = if a = b then 1 else 0 from rfl]; unfold rkb; split <;> omega), show m_rv 27 a b = if a = b then 1 else 0 from rfl, if_neg (by omega)])
  · refine (ex_1 (ex_28 (ex_8_5 rfl (ex_58 (ex_5_5 (ex_1 ?_))))))
    refine ex_lc4 (fun hc => by exfalso; revert hc; decide) (fun _ => ?_)
    refine (ex_5_5 (ex_1 ?_))
    refine ex_lc3 (fun _ => ?_) (fun hc => by exfalso; revert hc; decide)
    refine (ex_5_5 (ex_20 ⟨by omega, by omega⟩ (ex_58 ?_)))
    exact ex_53 (by rw [jn_some (by unfold m_dz; omega) (by rw [show m_rv 27 a b = if a = b then 1 else 0 from rfl]; unfold rkb; split <;> omega), show m_rv 27 a b = if a = b then 1 else 0 from rfl, if_pos (by omega)])
theorem k_jn {d : Nat} {G : am_G} {I : Nat → Nat → Int} {P : Nat → Nat → Option Nat} {s : Nat} {a b : Int} (hs : 6 ≤ s ∧ s ≤ 13) (ha : rkb a) (hb : rkb b) : am_call am_B am_M (d + 1) 97 [.inl (s : Int), .inr (.inl a), .inr (.inl b)] (G, I, P) = some (some (.inl (jn ((s : Int) + 14) a b)), (G, I, P)) := by
  have : s = 6 ∨ s = 7 ∨ s = 8 ∨ s = 9 ∨ s = 10 ∨ s = 11 ∨ s = 12 ∨ s = 13 := by omega
  rcases this with rfl | rfl | rfl | rfl | rfl | rfl | rfl | rfl
  · exact k_jn_6 ha hb
  · exact k_jn_7 ha hb
  · exact k_jn_8 ha hb
  · by_cases hz : b = 0
    · exact k_jn_9z ha hb hz
    · exact k_jn_9 ha hb hz
  · by_cases hz : b = 0
    · exact k_jn_10z ha hb hz
    · exact k_jn_10 ha hb hz
  · exact k_jn_11 ha hb
  · exact k_jn_12 ha hb
  · exact k_jn_13 ha hb
theorem l_ck {d : Nat} {G : am_G} {I : Nat → Nat → Int} {P : Nat → Nat → Option Nat} {t wq sq nw C sz : Nat} {sg tl : Nat → Nat} {w : Nat → Int} {last : Nat} {st : Int} (ht : G.2.2 t = .inr 9) (hp : P t 6 = some (t + 6)) (hcs : G.2.2 (t + 6) = .inl (0, C)) (hsz : I t 7 = (sz : Int)) (hszC : sz ≤ C) (hC : C ≤ 500) (hws : G.2.2 wq = .inl (0, nw)) (hss : G.2.2 sq = .inl (0, 32)) (hn1 : ¬ wq = sq) (hn2 : ¬ t = sq) (hn3 : ¬ t + 6 = sq) (hcode : ∀ k, k < sz → I (t + 6) k = ((tl k * 16 + sg k : Nat) : Int) ∧ sg k < 16 ∧ tl k < 100000000) (hw : ∀ k, k < nw → I wq k = w k) (hnw : nw ≤ 100) (hlast : last < sz) (hend : sg last = 0) {res : Option (Nat × (Nat → Int))} : ∀ (f k n : Nat) (r : Nat → Int) (e : Nat → Option am_V), ck (opK sg) (argK tl) (wvC w nw) last f k n r = some res → k ≤ last → (∀ j, j < n → rkb (r j)) → am_ex (am_call am_B am_M (d + 1)) (am_B 96) (am_B 96 1) [some (.inr (.inr (some t))), some (.inl st), some (.inr (.inr (some wq))), some (.inr (.inr (some sq))), some (.inl (n : Int)), some (.inl (k : Int)), e 6, e 7, e 8] [] (G, am_u1 I sq r, P) (fun o => ∃ r', o = (some (.inl (ckv res)), (G, am_u1 I sq r', P)))
  | 0, k, n, r, e, hrk, _, _ => by simp [ck] at hrk
  | f + 1, k, n, r, e, hrk, hkl, hb => by
    rw [ck] at hrk
    have hkz : k < sz := by omega
    obtain ⟨hcd, hs16, htl⟩ := hcode k hkz
    by_cases hl : last ≤ k
    · rw [if_pos hl] at hrk
      have hres : res = some (n, r) := (Option.some.inj hrk).symm
      have hs : sg k = 0 := by rw [show k = last by omega]; exact hend
      refine (ex_4_5 ?_)
      refine ex_if2 (fun hc8 => by exfalso; omega) (fun hc8 => ?_)
      refine (ex_4_5 (ex_6_0 (ix_41i ht (((u1_qk hn2)).trans hsz) ?_)))
      refine ex_ic3 (fun hc17 => by exfalso; omega) (fun hc17 => ?_)
      refine (ex_6_0 (ix_41r ht hp (ex_4_5 (ix_30 (j := k) hcs (by omega) (by omega) (by omega) (((u1_qk hn3)).trans hcd) (ex_0 (ex_11e (v := 0) ((cd_and hs16 htl).trans (by rw [hs]; rfl)) (ex_if0 (fun _ => ?_) (fun hc => by exfalso; revert hc; decide))))))))
      refine (ex_4_4 (ex_0 ?_))
      refine ex_ic1 (fun hc270 => ?_) (fun hc270 => ?_)
      · refine (ex_0 (ex_58 ?_))
        exact ex_53 ⟨r, by rw [hres, ckv_f (by omega)]⟩
      · refine (ex_6_3 (ex_0 (ix_30 (j := 0) hss (by decide) (by decide) rfl (congrFun u1_e _) (ex_28 ?_))))
        exact ex_53 ⟨r, by rw [hres, ckv_t (by omega)]⟩
    · rw [if_neg hl] at hrk
      have hrk0 := hrk
      by_cases hs : sg k = 1
      · have ho : opK sg k = 0 := by unfold opK; rw [hs]; rfl
        rw [ho, if_pos (by decide)] at hrk
        by_cases hg : 0 ≤ (0 : Int) ∧ n < 32 ∧ rkok (rkv (wvC w nw) 0 (argK tl k)) = true
        · rw [if_pos hg] at hrk
          obtain ⟨-, g1, g2⟩ := hg
          have hvb : rkb (tl k : Int) := by
            have : rkv (wvC w nw) 0 (argK tl k) = some (tl k : Int) := if_pos rfl
            rw [this] at g2
            have g3 : -1000000000 ≤ (tl k : Int) ∧ (tl k : Int) ≤ 1000000000 := of_decide_eq_true g2
            exact g3
          have hrk : ck (opK sg) (argK tl) (wvC w nw) last f (k + 1) (n + 1) (am_u1 r n (tl k : Int)) = some res := hrk
          have hbn : ∀ j, j < n + 1 → rkb (am_u1 r n ((tl k : Int)) j) := by
            intro j hj
            unfold am_u1
            split
            · exact hvb
            · exact hb j (by omega)
          refine (ex_4_5 ?_)
          refine ex_if2 (fun hc8 => by exfalso; omega) (fun hc8 => ?_)
          refine (ex_4_5 (ex_6_0 (ix_41i ht (((u1_qk hn2)).trans hsz) ?_)))
          refine ex_ic3 (fun hc17 => by exfalso; omega) (fun hc17 => ?_)
          refine (ex_6_0 (ix_41r ht hp (ex_4_5 (ix_30 (j := k) hcs (by omega) (by omega) (by omega) (((u1_qk hn3)).trans hcd) (ex_0 (ex_11e (v := 1) ((cd_and hs16 htl).trans (by rw [hs]; rfl)) (ex_if0 (fun hc => by exfalso; revert hc; decide) (fun _ => ?_))))))))
          refine (ex_6_0 (ix_41r ht hp (ex_4_5 (ix_30 (j := k) hcs (by omega) (by omega) (by omega) (((u1_qk hn3)).trans hcd) (ex_0 (ex_11e (v := 1) ((cd_and hs16 htl).trans (by rw [hs]; rfl)) (ex_7_6 rfl (ex_6_0 (ix_41r ht hp (ex_4_5 (ix_30 (j := k) hcs (by omega) (by omega) (by omega) (((u1_qk hn3)).trans hcd) (ex_0 (ex_11e (v := ((tl k) : Int)) (cd_shr hs16 htl) (ex_7_7 rfl (ex_4_6 (ex_0 (ex_ic0 (fun _ => ?_) (fun hc => by exfalso; revert hc; decide))))))))))))))))))
          refine (ex_4_4 (ex_6_3 (ix_38 hss (by decide) ?_)))
          refine ex_ic3 (fun hc72 => by exfalso; omega) (fun hc72 => ?_)
          refine (ex_4_6 (ex_0 (ex_ic1 (fun _ => ?_) (fun hc => by exfalso; revert hc; decide))))
          refine (ex_6_3 (ex_4_4 (ex_4_6 (ex_0 (ex_ic1 (fun hc => by exfalso; revert hc; decide) (fun _ => ?_))))))
          refine (ex_4_7 (ex_28 (ix_34 (j := n) hss (by omega) (by omega) (by omega) (ex_10_4 ⟨by omega, by omega⟩ rfl (ex_28 (ex_10_5 ⟨by omega, by omega⟩ rfl (ex_28 ?_)))))))
          rw [u2_u1]
          exact l_ck ht hp hcs hsz hszC hC hws hss hn1 hn2 hn3 hcode hw hnw hlast hend f (k + 1) (n + 1) (am_u1 r n ((tl k : Int))) (fun k_ => ([some (.inr (.inr (some t))), some (.inl st), some (.inr (.inr (some wq))), some (.inr (.inr (some sq))), some (.inl ((n : Int) + 1)), some (.inl ((k : Int) + 1)), some (.inl 1), some (.inl ((tl k) : Int)), (e 8)] : am_L).getD k_ none) hrk (by omega) hbn
        · rw [if_neg hg] at hrk; cases hrk
      by_cases hs : sg k = 2
      · have ho : opK sg k = 1 := by unfold opK; rw [hs]; rfl
        rw [ho, if_pos (by decide)] at hrk
        by_cases hg : 0 ≤ (1 : Int) ∧ n < 32 ∧ rkok (rkv (wvC w nw) 1 (argK tl k)) = true
        · rw [if_pos hg] at hrk
          obtain ⟨-, g1, g2⟩ := hg
          have hwk : tl k < nw ∧ rkv (wvC w nw) 1 (argK tl k) = some (w (tl k)) := by
            have e1 : rkv (wvC w nw) 1 (argK tl k) = wvC w nw 1 (tl k : Int) := if_neg (by decide)
            rw [e1] at g2 ⊢
            unfold wvC at g2 ⊢
            by_cases q : (1 : Int) = 1 ∧ 0 ≤ (tl k : Int) ∧ (tl k : Int) < (nw : Int)
            · rw [if_pos q, Int.toNat_natCast]; exact ⟨by omega, rfl⟩
            · rw [if_neg q] at g2; cases g2
          obtain ⟨hwn, hwe⟩ := hwk
          rw [hwe] at g2 hrk
          have g3 : -1000000000 ≤ w (tl k) ∧ w (tl k) ≤ 1000000000 := of_decide_eq_true g2
          have hvb : rkb (w (tl k)) := g3
          have hrk : ck (opK sg) (argK tl) (wvC w nw) last f (k + 1) (n + 1) (am_u1 r n (w (tl k))) = some res := hrk
          have hbn : ∀ j, j < n + 1 → rkb (am_u1 r n (w (tl k)) j) := by
            intro j hj
            unfold am_u1
            split
            · exact hvb
            · exact hb j (by omega)
          refine (ex_4_5 ?_)
          refine ex_if2 (fun hc8 => by exfalso; omega) (fun hc8 => ?_)
          refine (ex_4_5 (ex_6_0 (ix_41i ht (((u1_qk hn2)).trans hsz) ?_)))
          refine ex_ic3 (fun hc17 => by exfalso; omega) (fun hc17 => ?_)
          refine (ex_6_0 (ix_41r ht hp (ex_4_5 (ix_30 (j := k) hcs (by omega) (by omega) (by omega) (((u1_qk hn3)).trans hcd) (ex_0 (ex_11e (v := 2) ((cd_and hs16 htl).trans (by rw [hs]; rfl)) (ex_if0 (fun hc => by exfalso; revert hc; decide) (fun _ => ?_))))))))
          refine (ex_6_0 (ix_41r ht hp (ex_4_5 (ix_30 (j := k) hcs (by omega) (by omega) (by omega) (((u1_qk hn3)).trans hcd) (ex_0 (ex_11e (v := 2) ((cd_and hs16 htl).trans (by rw [hs]; rfl)) (ex_7_6 rfl (ex_6_0 (ix_41r ht hp (ex_4_5 (ix_30 (j := k) hcs (by omega) (by omega) (by omega) (((u1_qk hn3)).trans hcd) (ex_0 (ex_11e (v := ((tl k) : Int)) (cd_shr hs16 htl) (ex_7_7 rfl (ex_4_6 (ex_0 (ex_ic0 (fun hc => by exfalso; revert hc; decide) (fun _ => ?_))))))))))))))))))
          refine (ex_4_6 (ex_0 (ex_ic1 (fun hc => by exfalso; revert hc; decide) (fun _ => ?_))))
          refine (ex_4_4 (ex_6_3 (ix_38 hss (by decide) ?_)))
          refine ex_ic3 (fun hc72 => by exfalso; omega) (fun hc72 => ?_)
          refine (ex_4_6 (ex_0 (ex_ic1 (fun hc => by exfalso; revert hc; decide) (fun _ => ?_))))
          refine (ex_4_7 (ex_6_2 (ix_38 hws (by decide) ?_)))
          refine ex_ic2 (fun hc85 => ?_) (fun hc85 => by exfalso; omega)
          refine (ex_6_3 (ex_4_4 (ex_4_6 (ex_0 (ex_ic1 (fun _ => ?_) (fun hc => by exfalso; revert hc; decide))))))
          refine (ex_6_2 (ex_4_7 (ix_30 (j := (tl k)) hws (by omega) (by omega) (by omega) (((u1_qk hn1)).trans (hw _ hwn)) (ex_58 (ix_34 (j := n) hss (by omega) (by omega) (by omega) (ex_10_4 ⟨by omega, by omega⟩ rfl (ex_28 (ex_10_5 ⟨by omega, by omega⟩ rfl (ex_28 ?_)))))))))
          rw [u2_u1]
          exact l_ck ht hp hcs hsz hszC hC hws hss hn1 hn2 hn3 hcode hw hnw hlast hend f (k + 1) (n + 1) (am_u1 r n (w (tl k))) (fun k_ => ([some (.inr (.inr (some t))), some (.inl st), some (.inr (.inr (some wq))), some (.inr (.inr (some sq))), some (.inl ((n : Int) + 1)), some (.inl ((k : Int) + 1)), some (.inl 2), some (.inl ((tl k) : Int)), (e 8)] : am_L).getD k_ none) hrk (by omega) hbn
        · rw [if_neg hg] at hrk; cases hrk
      by_cases hs : sg k = 3
      · have ho : opK sg k = 28 := by unfold opK; rw [hs]; rfl
        rw [ho, if_neg (by decide), if_neg (by decide), if_pos rfl] at hrk
        by_cases hg : (1 ≤ n ∧ n ≤ 32) ∧ (r (n - 1) = 0 ∨ r (n - 1) = 1)
        · rw [if_pos hg] at hrk
          obtain ⟨m, rfl⟩ : ∃ m, n = m + 1 := ⟨n - 1, by omega⟩
          rw [show m + 1 - 1 = m by omega] at hrk hg
          have hbn : ∀ j, j < m + 1 → rkb (am_u1 r m (1 - r m) j) := by
            intro j hj
            unfold am_u1
            split
            · unfold rkb; omega
            · exact hb j (by omega)
          refine (ex_4_5 ?_)
          refine ex_if2 (fun hc8 => by exfalso; omega) (fun hc8 => ?_)
          refine (ex_4_5 (ex_6_0 (ix_41i ht (((u1_qk hn2)).trans hsz) ?_)))
          refine ex_ic3 (fun hc17 => by exfalso; omega) (fun hc17 => ?_)
          refine (ex_6_0 (ix_41r ht hp (ex_4_5 (ix_30 (j := k) hcs (by omega) (by omega) (by omega) (((u1_qk hn3)).trans hcd) (ex_0 (ex_11e (v := 3) ((cd_and hs16 htl).trans (by rw [hs]; rfl)) (ex_if0 (fun hc => by exfalso; revert hc; decide) (fun _ => ?_))))))))
          refine (ex_6_0 (ix_41r ht hp (ex_4_5 (ix_30 (j := k) hcs (by omega) (by omega) (by omega) (((u1_qk hn3)).trans hcd) (ex_0 (ex_11e (v := 3) ((cd_and hs16 htl).trans (by rw [hs]; rfl)) (ex_7_6 rfl (ex_6_0 (ix_41r ht hp (ex_4_5 (ix_30 (j := k) hcs (by omega) (by omega) (by omega) (((u1_qk hn3)).trans hcd) (ex_0 (ex_11e (v := ((tl k) : Int)) (cd_shr hs16 htl) (ex_7_7 rfl (ex_4_6 (ex_0 (ex_ic0 (fun hc => by exfalso; revert hc; decide) (fun _ => ?_))))))))))))))))))
          refine (ex_4_6 (ex_0 (ex_ic1 (fun _ => ?_) (fun hc => by exfalso; revert hc; decide))))
          refine (ex_4_4 (ex_0 ?_))
          refine ex_ic3 (fun hc119 => ?_) (fun hc119 => by exfalso; omega)
          refine (ex_4_6 (ex_0 (ex_ic1 (fun hc => by exfalso; revert hc; decide) (fun _ => ?_))))
          refine (ex_6_3 (ex_4_4 (ex_0 (ex_11e (v := (m : Int)) ((am_sub ⟨by omega, by omega⟩).trans (by omega)) (ex_0 (ex_6_3 (ex_4_4 (ex_0 (ex_11e (v := (m : Int)) ((am_sub ⟨by omega, by omega⟩).trans (by omega)) (ix_30 (j := m) hss (by omega) (by omega) (by omega) (congrFun u1_e _) (ex_sub ⟨by omega, by omega⟩ (ix_34 (j := m) hss (by omega) (by omega) (by omega) (ex_28 (ex_10_5 ⟨by omega, by omega⟩ rfl (ex_28 ?_)))))))))))))))
          rw [u2_u1]
          exact l_ck ht hp hcs hsz hszC hC hws hss hn1 hn2 hn3 hcode hw hnw hlast hend f (k + 1) (m + 1) (am_u1 r m (1 - r m)) (fun k_ => ([some (.inr (.inr (some t))), some (.inl st), some (.inr (.inr (some wq))), some (.inr (.inr (some sq))), some (.inl ((m + 1 : Nat) : Int)), some (.inl ((k : Int) + 1)), some (.inl 3), some (.inl ((tl k) : Int)), (e 8)] : am_L).getD k_ none) hrk (by omega) hbn
        · rw [if_neg hg] at hrk; cases hrk
      by_cases hs : sg k = 4
      · have ho : opK sg k = 29 := by unfold opK; rw [hs]; rfl
        rw [ho, if_neg (by decide), if_neg (by decide), if_neg (by decide)] at hrk
        by_cases hg : (1 ≤ n ∧ n ≤ 32) ∧ (r (n - 1) = 0 ∨ r (n - 1) = 1) ∧ (k : Int) < argK tl k ∧ argK tl k ≤ (last : Int)
        · rw [if_pos hg] at hrk
          have hg2 : k < tl k ∧ tl k ≤ last := by have a := hg.2.2; unfold argK at a; omega
          obtain ⟨m, rfl⟩ : ∃ m, n = m + 1 := ⟨n - 1, by omega⟩
          have h01 := hg.2.1
          rw [show m + 1 - 1 = m by omega] at h01
          rw [show m + 1 - 1 = m by omega, if_pos rfl] at hrk
          have hr01 := hb m (by omega)
          by_cases hj : r m = 0
          · rw [if_pos hj] at hrk
            have hrk : ck (opK sg) (argK tl) (wvC w nw) last f (tl k) (m + 1) r = some res := hrk
            refine (ex_4_5 ?_)
            refine ex_if2 (fun hc8 => by exfalso; omega) (fun hc8 => ?_)
            refine (ex_4_5 (ex_6_0 (ix_41i ht (((u1_qk hn2)).trans hsz) ?_)))
            refine ex_ic3 (fun hc17 => by exfalso; omega) (fun hc17 => ?_)
            refine (ex_6_0 (ix_41r ht hp (ex_4_5 (ix_30 (j := k) hcs (by omega) (by omega) (by omega) (((u1_qk hn3)).trans hcd) (ex_0 (ex_11e (v := 4) ((cd_and hs16 htl).trans (by rw [hs]; rfl)) (ex_if0 (fun hc => by exfalso; revert hc; decide) (fun _ => ?_))))))))
            refine (ex_6_0 (ix_41r ht hp (ex_4_5 (ix_30 (j := k) hcs (by omega) (by omega) (by omega) (((u1_qk hn3)).trans hcd) (ex_0 (ex_11e (v := 4) ((cd_and hs16 htl).trans (by rw [hs]; rfl)) (ex_7_6 rfl (ex_6_0 (ix_41r ht hp (ex_4_5 (ix_30 (j := k) hcs (by omega) (by omega) (by omega) (((u1_qk hn3)).trans hcd) (ex_0 (ex_11e (v := ((tl k) : Int)) (cd_shr hs16 htl) (ex_7_7 rfl (ex_4_6 (ex_0 (ex_ic0 (fun hc => by exfalso; revert hc; decide) (fun _ => ?_))))))))))))))))))
            refine (ex_4_6 (ex_0 (ex_ic1 (fun _ => ?_) (fun hc => by exfalso; revert hc; decide))))
            refine (ex_4_4 (ex_0 ?_))
            refine ex_ic3 (fun hc119 => ?_) (fun hc119 => by exfalso; omega)
            refine (ex_4_6 (ex_0 (ex_ic1 (fun _ => ?_) (fun hc => by exfalso; revert hc; decide))))
            refine (ex_4_6 (ex_0 (ex_ic0 (fun _ => ?_) (fun hc => by exfalso; revert hc; decide))))
            refine (ex_6_3 (ex_4_4 (ex_0 (ex_11e (v := (m : Int)) ((am_sub ⟨by omega, by omega⟩).trans (by omega)) (ix_30 (j := m) hss (by omega) (by omega) (by omega) (congrFun u1_e _) ?_)))))
            refine ex_if1 (fun hc166 => by exfalso; omega) (fun hc166 => ?_)
            refine (ex_0 (ex_28 (ex_4_6 (ex_0 (ex_ic1 (fun hc => by exfalso; revert hc; decide) (fun _ => ?_))))))
            refine (ex_0 (ex_28 (ex_ic1 (fun hc => by exfalso; revert hc; decide) (fun _ => ?_))))
            refine (ex_4_5 (ex_4_7 (ex_0 (ex_sub ⟨by omega, by omega⟩ (ex_max rfl (show (if (k : Int) ≤ (tl k : Int) - 1 then (tl k : Int) - 1 else (k : Int)) = ((tl k - 1 : Nat) : Int) by rw [if_pos (by omega)]; omega) (ex_7_5 rfl (ex_28 (ex_10_5 ⟨by omega, by omega⟩ rfl (ex_28 ?_)))))))))
            rw [show ((tl k - 1 : Nat) : Int) + 1 = (tl k : Int) by omega]
            exact l_ck ht hp hcs hsz hszC hC hws hss hn1 hn2 hn3 hcode hw hnw hlast hend f (tl k) (m + 1) r (fun k_ => ([some (.inr (.inr (some t))), some (.inl st), some (.inr (.inr (some wq))), some (.inr (.inr (some sq))), some (.inl ((m + 1 : Nat) : Int)), some (.inl ((tl k : Int))), some (.inl 4), some (.inl ((tl k) : Int)), (e 8)] : am_L).getD k_ none) hrk (by omega) hb
          · rw [if_neg hj] at hrk
            have hbn : ∀ j, j < m → rkb (r j) := fun j hj => hb j (by omega)
            refine (ex_4_5 ?_)
            refine ex_if2 (fun hc8 => by exfalso; omega) (fun hc8 => ?_)
            refine (ex_4_5 (ex_6_0 (ix_41i ht (((u1_qk hn2)).trans hsz) ?_)))
            refine ex_ic3 (fun hc17 => by exfalso; omega) (fun hc17 => ?_)
            refine (ex_6_0 (ix_41r ht hp (ex_4_5 (ix_30 (j := k) hcs (by omega) (by omega) (by omega) (((u1_qk hn3)).trans hcd) (ex_0 (ex_11e (v := 4) ((cd_and hs16 htl).trans (by rw [hs]; rfl)) (ex_if0 (fun hc => by exfalso; revert hc; decide) (fun _ => ?_))))))))
            refine (ex_6_0 (ix_41r ht hp (ex_4_5 (ix_30 (j := k) hcs (by omega) (by omega) (by omega) (((u1_qk hn3)).trans hcd) (ex_0 (ex_11e (v := 4) ((cd_and hs16 htl).trans (by rw [hs]; rfl)) (ex_7_6 rfl (ex_6_0 (ix_41r ht hp (ex_4_5 (ix_30 (j := k) hcs (by omega) (by omega) (by omega) (((u1_qk hn3)).trans hcd) (ex_0 (ex_11e (v := ((tl k) : Int)) (cd_shr hs16 htl) (ex_7_7 rfl (ex_4_6 (ex_0 (ex_ic0 (fun hc => by exfalso; revert hc; decide) (fun _ => ?_))))))))))))))))))
            refine (ex_4_6 (ex_0 (ex_ic1 (fun _ => ?_) (fun hc => by exfalso; revert hc; decide))))
            refine (ex_4_4 (ex_0 ?_))
            refine ex_ic3 (fun hc119 => ?_) (fun hc119 => by exfalso; omega)
            refine (ex_4_6 (ex_0 (ex_ic1 (fun _ => ?_) (fun hc => by exfalso; revert hc; decide))))
            refine (ex_4_6 (ex_0 (ex_ic0 (fun _ => ?_) (fun hc => by exfalso; revert hc; decide))))
            refine (ex_6_3 (ex_4_4 (ex_0 (ex_11e (v := (m : Int)) ((am_sub ⟨by omega, by omega⟩).trans (by omega)) (ix_30 (j := m) hss (by omega) (by omega) (by omega) (congrFun u1_e _) ?_)))))
            refine ex_if1 (fun hc166 => ?_) (fun hc166 => by exfalso; omega)
            refine (ex_0 (ex_58 (ex_4_6 (ex_0 (ex_ic1 (fun hc => by exfalso; revert hc; decide) (fun _ => ?_))))))
            refine (ex_0 (ex_28 (ex_ic1 (fun _ => ?_) (fun hc => by exfalso; revert hc; decide))))
            refine (ex_10_4 ⟨by omega, by omega⟩ rfl ?_)
            rw [show (((m + 1 : Nat) : Int) + (-1)) = (m : Int) from by omega]
            refine (ex_28 (ex_10_5 ⟨by omega, by omega⟩ rfl (ex_28 ?_)))
            exact l_ck ht hp hcs hsz hszC hC hws hss hn1 hn2 hn3 hcode hw hnw hlast hend f (k + 1) (m) (r) (fun k_ => ([some (.inr (.inr (some t))), some (.inl st), some (.inr (.inr (some wq))), some (.inr (.inr (some sq))), some (.inl (m : Int)), some (.inl ((k : Int) + 1)), some (.inl 4), some (.inl ((tl k) : Int)), (e 8)] : am_L).getD k_ none) hrk (by omega) hbn
        · rw [if_neg hg] at hrk; cases hrk
      by_cases hs : sg k = 5
      · have ho : opK sg k = 30 := by unfold opK; rw [hs]; rfl
        rw [ho, if_neg (by decide), if_neg (by decide), if_neg (by decide)] at hrk
        by_cases hg : (1 ≤ n ∧ n ≤ 32) ∧ (r (n - 1) = 0 ∨ r (n - 1) = 1) ∧ (k : Int) < argK tl k ∧ argK tl k ≤ (last : Int)
        · rw [if_pos hg] at hrk
          have hg2 : k < tl k ∧ tl k ≤ last := by have a := hg.2.2; unfold argK at a; omega
          obtain ⟨m, rfl⟩ : ∃ m, n = m + 1 := ⟨n - 1, by omega⟩
          have h01 := hg.2.1
          rw [show m + 1 - 1 = m by omega] at h01
          rw [show m + 1 - 1 = m by omega, if_neg (show ¬ (30 : Int) = 29 by decide)] at hrk
          have hr01 := hb m (by omega)
          by_cases hj : r m = 1
          · rw [if_pos hj] at hrk
            have hrk : ck (opK sg) (argK tl) (wvC w nw) last f (tl k) (m + 1) r = some res := hrk
            refine (ex_4_5 ?_)
            refine ex_if2 (fun hc8 => by exfalso; omega) (fun hc8 => ?_)
            refine (ex_4_5 (ex_6_0 (ix_41i ht (((u1_qk hn2)).trans hsz) ?_)))
            refine ex_ic3 (fun hc17 => by exfalso; omega) (fun hc17 => ?_)
            refine (ex_6_0 (ix_41r ht hp (ex_4_5 (ix_30 (j := k) hcs (by omega) (by omega) (by omega) (((u1_qk hn3)).trans hcd) (ex_0 (ex_11e (v := 5) ((cd_and hs16 htl).trans (by rw [hs]; rfl)) (ex_if0 (fun hc => by exfalso; revert hc; decide) (fun _ => ?_))))))))
            refine (ex_6_0 (ix_41r ht hp (ex_4_5 (ix_30 (j := k) hcs (by omega) (by omega) (by omega) (((u1_qk hn3)).trans hcd) (ex_0 (ex_11e (v := 5) ((cd_and hs16 htl).trans (by rw [hs]; rfl)) (ex_7_6 rfl (ex_6_0 (ix_41r ht hp (ex_4_5 (ix_30 (j := k) hcs (by omega) (by omega) (by omega) (((u1_qk hn3)).trans hcd) (ex_0 (ex_11e (v := ((tl k) : Int)) (cd_shr hs16 htl) (ex_7_7 rfl (ex_4_6 (ex_0 (ex_ic0 (fun hc => by exfalso; revert hc; decide) (fun _ => ?_))))))))))))))))))
            refine (ex_4_6 (ex_0 (ex_ic1 (fun _ => ?_) (fun hc => by exfalso; revert hc; decide))))
            refine (ex_4_4 (ex_0 ?_))
            refine ex_ic3 (fun hc119 => ?_) (fun hc119 => by exfalso; omega)
            refine (ex_4_6 (ex_0 (ex_ic1 (fun _ => ?_) (fun hc => by exfalso; revert hc; decide))))
            refine (ex_4_6 (ex_0 (ex_ic0 (fun hc => by exfalso; revert hc; decide) (fun _ => ?_))))
            refine (ex_4_6 (ex_0 (ex_ic1 (fun hc => by exfalso; revert hc; decide) (fun _ => ?_))))
            refine (ex_6_3 (ex_4_4 (ex_0 (ex_11e (v := (m : Int)) ((am_sub ⟨by omega, by omega⟩).trans (by omega)) (ix_30 (j := m) hss (by omega) (by omega) (by omega) (congrFun u1_e _) ?_)))))
            refine ex_if1 (fun hc166 => ?_) (fun hc166 => by exfalso; omega)
            refine (ex_0 (ex_58 (ex_4_6 (ex_0 (ex_ic1 (fun _ => ?_) (fun hc => by exfalso; revert hc; decide))))))
            refine (ex_0 (ex_58 (ex_ic1 (fun hc => by exfalso; revert hc; decide) (fun _ => ?_))))
            refine (ex_4_5 (ex_4_7 (ex_0 (ex_sub ⟨by omega, by omega⟩ (ex_max rfl (show (if (k : Int) ≤ (tl k : Int) - 1 then (tl k : Int) - 1 else (k : Int)) = ((tl k - 1 : Nat) : Int) by rw [if_pos (by omega)]; omega) (ex_7_5 rfl (ex_28 (ex_10_5 ⟨by omega, by omega⟩ rfl (ex_28 ?_)))))))))
            rw [show ((tl k - 1 : Nat) : Int) + 1 = (tl k : Int) by omega]
            exact l_ck ht hp hcs hsz hszC hC hws hss hn1 hn2 hn3 hcode hw hnw hlast hend f (tl k) (m + 1) r (fun k_ => ([some (.inr (.inr (some t))), some (.inl st), some (.inr (.inr (some wq))), some (.inr (.inr (some sq))), some (.inl ((m + 1 : Nat) : Int)), some (.inl ((tl k : Int))), some (.inl 5), some (.inl ((tl k) : Int)), (e 8)] : am_L).getD k_ none) hrk (by omega) hb
          · rw [if_neg hj] at hrk
            have hbn : ∀ j, j < m → rkb (r j) := fun j hj => hb j (by omega)
            by_cases hz0 : r m = 0
            · refine (ex_4_5 ?_)
              refine ex_if2 (fun hc8 => by exfalso; omega) (fun hc8 => ?_)
              refine (ex_4_5 (ex_6_0 (ix_41i ht (((u1_qk hn2)).trans hsz) ?_)))
              refine ex_ic3 (fun hc17 => by exfalso; omega) (fun hc17 => ?_)
              refine (ex_6_0 (ix_41r ht hp (ex_4_5 (ix_30 (j := k) hcs (by omega) (by omega) (by omega) (((u1_qk hn3)).trans hcd) (ex_0 (ex_11e (v := 5) ((cd_and hs16 htl).trans (by rw [hs]; rfl)) (ex_if0 (fun hc => by exfalso; revert hc; decide) (fun _ => ?_))))))))
              refine (ex_6_0 (ix_41r ht hp (ex_4_5 (ix_30 (j := k) hcs (by omega) (by omega) (by omega) (((u1_qk hn3)).trans hcd) (ex_0 (ex_11e (v := 5) ((cd_and hs16 htl).trans (by rw [hs]; rfl)) (ex_7_6 rfl (ex_6_0 (ix_41r ht hp (ex_4_5 (ix_30 (j := k) hcs (by omega) (by omega) (by omega) (((u1_qk hn3)).trans hcd) (ex_0 (ex_11e (v := ((tl k) : Int)) (cd_shr hs16 htl) (ex_7_7 rfl (ex_4_6 (ex_0 (ex_ic0 (fun hc => by exfalso; revert hc; decide) (fun _ => ?_))))))))))))))))))
              refine (ex_4_6 (ex_0 (ex_ic1 (fun _ => ?_) (fun hc => by exfalso; revert hc; decide))))
              refine (ex_4_4 (ex_0 ?_))
              refine ex_ic3 (fun hc119 => ?_) (fun hc119 => by exfalso; omega)
              refine (ex_4_6 (ex_0 (ex_ic1 (fun _ => ?_) (fun hc => by exfalso; revert hc; decide))))
              refine (ex_4_6 (ex_0 (ex_ic0 (fun hc => by exfalso; revert hc; decide) (fun _ => ?_))))
              refine (ex_4_6 (ex_0 (ex_ic1 (fun hc => by exfalso; revert hc; decide) (fun _ => ?_))))
              refine (ex_6_3 (ex_4_4 (ex_0 (ex_11e (v := (m : Int)) ((am_sub ⟨by omega, by omega⟩).trans (by omega)) (ix_30 (j := m) hss (by omega) (by omega) (by omega) (congrFun u1_e _) ?_)))))
              refine ex_if1 (fun hc166 => by exfalso; omega) (fun hc166 => ?_)
              refine (ex_0 (ex_28 (ex_4_6 (ex_0 (ex_ic1 (fun _ => ?_) (fun hc => by exfalso; revert hc; decide))))))
              refine (ex_0 (ex_58 (ex_ic1 (fun _ => ?_) (fun hc => by exfalso; revert hc; decide))))
              refine (ex_10_4 ⟨by omega, by omega⟩ rfl ?_)
              rw [show (((m + 1 : Nat) : Int) + (-1)) = (m : Int) from by omega]
              refine (ex_28 (ex_10_5 ⟨by omega, by omega⟩ rfl (ex_28 ?_)))
              exact l_ck ht hp hcs hsz hszC hC hws hss hn1 hn2 hn3 hcode hw hnw hlast hend f (k + 1) (m) (r) (fun k_ => ([some (.inr (.inr (some t))), some (.inl st), some (.inr (.inr (some wq))), some (.inr (.inr (some sq))), some (.inl (m : Int)), some (.inl ((k : Int) + 1)), some (.inl 5), some (.inl ((tl k) : Int)), (e 8)] : am_L).getD k_ none) hrk (by omega) hbn
            · exfalso; omega
        · rw [if_neg hg] at hrk; cases hrk
      by_cases hs : 6 ≤ sg k ∧ sg k ≤ 13
      · have ho : opK sg k = (sg k : Int) + 14 := by unfold opK; rw [if_neg (by omega), if_neg (by omega), if_neg (by omega), if_neg (by omega), if_neg (by omega), if_pos hs]
        rw [ho, if_neg (by omega), if_pos (by omega)] at hrk
        by_cases hg : 2 ≤ n ∧ n ≤ 32
        · rw [if_pos hg] at hrk
          obtain ⟨m, rfl⟩ : ∃ m, n = m + 2 := ⟨n - 2, by omega⟩
          rw [show m + 2 - 1 = m + 1 by omega, show m + 2 - 2 = m by omega] at hrk
          have hb0 := hb m (by omega)
          have hb1 := hb (m + 1) (by omega)
          by_cases hz : m_dz ((sg k : Int) + 14) (r (m + 1)) ∨ ¬ rkb (m_rv ((sg k : Int) + 14) (r m) (r (m + 1)))
          · have hzu : ((((sg k : Int) + 14 = 23 ∨ (sg k : Int) + 14 = 24) ∧ r (m + 1) = 0) ∨ ¬ (-1000000000 ≤ (m_rv ((sg k : Int) + 14) (r m) (r (m + 1))) ∧ (m_rv ((sg k : Int) + 14) (r m) (r (m + 1))) ≤ 1000000000)) := hz
            rw [if_pos hzu] at hrk
            have hres : res = none := (Option.some.inj hrk).symm
            have hj := jn_none (a := r m) hz
            refine (ex_4_5 ?_)
            refine ex_if2 (fun hc8 => by exfalso; omega) (fun hc8 => ?_)
            refine (ex_4_5 (ex_6_0 (ix_41i ht (((u1_qk hn2)).trans hsz) ?_)))
            refine ex_ic3 (fun hc17 => by exfalso; omega) (fun hc17 => ?_)
            refine (ex_6_0 (ix_41r ht hp (ex_4_5 (ix_30 (j := k) hcs (by omega) (by omega) (by omega) (((u1_qk hn3)).trans hcd) (ex_0 (ex_11e (v := ((sg k) : Int)) (cd_and hs16 htl) ?_))))))
            refine ex_if0 (fun hc30 => by exfalso; omega) (fun hc30 => ?_)
            refine (ex_6_0 (ix_41r ht hp (ex_4_5 (ix_30 (j := k) hcs (by omega) (by omega) (by omega) (((u1_qk hn3)).trans hcd) (ex_0 (ex_11e (v := ((sg k) : Int)) (cd_and hs16 htl) (ex_7_6 rfl (ex_6_0 (ix_41r ht hp (ex_4_5 (ix_30 (j := k) hcs (by omega) (by omega) (by omega) (((u1_qk hn3)).trans hcd) (ex_0 (ex_11e (v := ((tl k) : Int)) (cd_shr hs16 htl) (ex_7_7 rfl (ex_4_6 (ex_0 ?_))))))))))))))))
            refine ex_ic0 (fun hc59 => by exfalso; omega) (fun hc59 => ?_)
            refine (ex_4_6 (ex_0 ?_))
            refine ex_ic1 (fun hc65 => ?_) (fun hc65 => by exfalso; omega)
            refine (ex_4_4 (ex_0 ?_))
            refine ex_ic3 (fun hc119 => ?_) (fun hc119 => by exfalso; omega)
            refine (ex_4_6 (ex_0 ?_))
            refine ex_ic1 (fun hc128 => ?_) (fun hc128 => by exfalso; omega)
            refine (ex_4_6 (ex_0 ?_))
            refine ex_ic0 (fun hc151 => by exfalso; omega) (fun hc151 => ?_)
            refine (ex_4_6 (ex_0 ?_))
            refine ex_ic1 (fun hc157 => ?_) (fun hc157 => by exfalso; omega)
            refine (ex_4_4 (ex_0 ?_))
            refine ex_ic3 (fun hc211 => ?_) (fun hc211 => by exfalso; omega)
            refine (ex_4_6 (ex_6_3 (ex_4_4 (ex_0 (ex_11e (v := (m : Int)) ((am_sub ⟨by omega, by omega⟩).trans (by omega)) (ix_30 (j := m) hss (by omega) (by omega) (by omega) (congrFun u1_e _) (ex_19 (ex_6_3 (ex_4_4 (ex_0 (ex_11e (v := ((m + 1 : Nat) : Int)) ((am_sub ⟨by omega, by omega⟩).trans (by omega)) (ix_30 (j := (m + 1)) hss (by omega) (by omega) (by omega) (congrFun u1_e _) (ex_19 (ix_45 (S' := [(.inl (jn ((sg k : Int) + 14) (r m) (r (m + 1))))]) rfl (k_jn (s := sg k) hs hb0 hb1) rfl rfl (ex_58 (ex_7_8 rfl (ex_4_8 (ex_0 ?_))))))))))))))))))
            refine ex_ic1 (fun hc244 => by exfalso; omega) (fun hc244 => ?_)
            refine (ex_0 ?_)
            exact ex_53 ⟨r, by rw [hres]; rfl⟩
          · have hzu : ¬ ((((sg k : Int) + 14 = 23 ∨ (sg k : Int) + 14 = 24) ∧ r (m + 1) = 0) ∨ ¬ (-1000000000 ≤ (m_rv ((sg k : Int) + 14) (r m) (r (m + 1))) ∧ (m_rv ((sg k : Int) + 14) (r m) (r (m + 1))) ≤ 1000000000)) := hz
            rw [if_neg hzu] at hrk
            have hz1 : ¬ m_dz ((sg k : Int) + 14) (r (m + 1)) := fun q => hz (Or.inl q)
            have hz2 : rkb (m_rv ((sg k : Int) + 14) (r m) (r (m + 1))) := Classical.byContradiction fun q => hz (Or.inr q)
            have hj := jn_some hz1 hz2
            have hz3 : -1000000000 ≤ (m_rv ((sg k : Int) + 14) (r m) (r (m + 1))) ∧ (m_rv ((sg k : Int) + 14) (r m) (r (m + 1))) ≤ 1000000000 := hz2
            have hbn : ∀ j, j < m + 1 → rkb (am_u1 r m (m_rv ((sg k : Int) + 14) (r m) (r (m + 1))) j) := by
              intro j hj
              unfold am_u1
              split
              · exact hz2
              · exact hb j (by omega)
            refine (ex_4_5 ?_)
            refine ex_if2 (fun hc8 => by exfalso; omega) (fun hc8 => ?_)
            refine (ex_4_5 (ex_6_0 (ix_41i ht (((u1_qk hn2)).trans hsz) ?_)))
            refine ex_ic3 (fun hc17 => by exfalso; omega) (fun hc17 => ?_)
            refine (ex_6_0 (ix_41r ht hp (ex_4_5 (ix_30 (j := k) hcs (by omega) (by omega) (by omega) (((u1_qk hn3)).trans hcd) (ex_0 (ex_11e (v := ((sg k) : Int)) (cd_and hs16 htl) ?_))))))
            refine ex_if0 (fun hc30 => by exfalso; omega) (fun hc30 => ?_)
            refine (ex_6_0 (ix_41r ht hp (ex_4_5 (ix_30 (j := k) hcs (by omega) (by omega) (by omega) (((u1_qk hn3)).trans hcd) (ex_0 (ex_11e (v := ((sg k) : Int)) (cd_and hs16 htl) (ex_7_6 rfl (ex_6_0 (ix_41r ht hp (ex_4_5 (ix_30 (j := k) hcs (by omega) (by omega) (by omega) (((u1_qk hn3)).trans hcd) (ex_0 (ex_11e (v := ((tl k) : Int)) (cd_shr hs16 htl) (ex_7_7 rfl (ex_4_6 (ex_0 ?_))))))))))))))))
            refine ex_ic0 (fun hc59 => by exfalso; omega) (fun hc59 => ?_)
            refine (ex_4_6 (ex_0 ?_))
            refine ex_ic1 (fun hc65 => ?_) (fun hc65 => by exfalso; omega)
            refine (ex_4_4 (ex_0 ?_))
            refine ex_ic3 (fun hc119 => ?_) (fun hc119 => by exfalso; omega)
            refine (ex_4_6 (ex_0 ?_))
            refine ex_ic1 (fun hc128 => ?_) (fun hc128 => by exfalso; omega)
            refine (ex_4_6 (ex_0 ?_))
            refine ex_ic0 (fun hc151 => by exfalso; omega) (fun hc151 => ?_)
            refine (ex_4_6 (ex_0 ?_))
            refine ex_ic1 (fun hc157 => ?_) (fun hc157 => by exfalso; omega)
            refine (ex_4_4 (ex_0 ?_))
            refine ex_ic3 (fun hc211 => ?_) (fun hc211 => by exfalso; omega)
            refine (ex_4_6 (ex_6_3 (ex_4_4 (ex_0 (ex_11e (v := (m : Int)) ((am_sub ⟨by omega, by omega⟩).trans (by omega)) (ix_30 (j := m) hss (by omega) (by omega) (by omega) (congrFun u1_e _) (ex_19 (ex_6_3 (ex_4_4 (ex_0 (ex_11e (v := ((m + 1 : Nat) : Int)) ((am_sub ⟨by omega, by omega⟩).trans (by omega)) (ix_30 (j := (m + 1)) hss (by omega) (by omega) (by omega) (congrFun u1_e _) (ex_19 (ix_45 (S' := [(.inl (jn ((sg k : Int) + 14) (r m) (r (m + 1))))]) rfl (k_jn (s := sg k) hs hb0 hb1) rfl rfl (ex_58 (ex_7_8 rfl (ex_4_8 (ex_0 ?_))))))))))))))))))
            refine ex_ic1 (fun hc244 => ?_) (fun hc244 => by exfalso; omega)
            refine (ex_10_4 ⟨by omega, by omega⟩ rfl ?_)
            rw [show (((m + 2 : Nat) : Int) + (-1)) = ((m + 1 : Nat) : Int) from by omega]
            refine (ex_6_3 (ex_4_4 (ex_0 (ex_11e (v := (m : Int)) ((am_sub ⟨by omega, by omega⟩).trans (by omega)) (ex_4_8 (ix_34 (j := m) hss (by omega) (by omega) (by omega) (ex_58 (ex_10_5 ⟨by omega, by omega⟩ rfl (ex_28 ?_)))))))))
            rw [u2_u1, hj]
            exact l_ck ht hp hcs hsz hszC hC hws hss hn1 hn2 hn3 hcode hw hnw hlast hend f (k + 1) (m + 1) (am_u1 r m (m_rv ((sg k : Int) + 14) (r m) (r (m + 1)))) (fun k_ => ([some (.inr (.inr (some t))), some (.inl st), some (.inr (.inr (some wq))), some (.inr (.inr (some sq))), some (.inl ((m + 1 : Nat) : Int)), some (.inl ((k : Int) + 1)), some (.inl ((sg k) : Int)), some (.inl ((tl k) : Int)), some (.inl (m_rv ((sg k : Int) + 14) (r m) (r (m + 1))))] : am_L).getD k_ none) hrk (by omega) hbn
        · rw [if_neg hg] at hrk; cases hrk
      have ho : opK sg k = -1 := by unfold opK; rw [if_neg ‹_›, if_neg ‹_›, if_neg ‹_›, if_neg ‹_›, if_neg ‹_›, if_neg hs]
      rw [ho, if_pos (by decide), if_neg (by rintro ⟨z, _⟩; exact absurd z (by decide))] at hrk
      cases hrk
theorem k_value {d : Nat} {G : am_G} {I : Nat → Nat → Int} {P : Nat → Nat → Option Nat} {t wq sq nw C sz : Nat} {sg tl : Nat → Nat} {w : Nat → Int} {last : Nat} (ht : G.2.2 t = .inr 9) (hp : P t 6 = some (t + 6)) (hcs : G.2.2 (t + 6) = .inl (0, C)) (hsz : I t 7 = (sz : Int)) (hszC : sz ≤ C) (hC : C ≤ 500) (hws : G.2.2 wq = .inl (0, nw)) (hss : G.2.2 sq = .inl (0, 32)) (hn1 : ¬ wq = sq) (hn2 : ¬ t = sq) (hn3 : ¬ t + 6 = sq) (hcode : ∀ k, k < sz → I (t + 6) k = ((tl k * 16 + sg k : Nat) : Int) ∧ sg k < 16 ∧ tl k < 100000000) (hw : ∀ k, k < nw → I wq k = w k) (hnw : nw ≤ 100) (hlast : last < sz) (hend : sg last = 0) {a : Nat} {f : Option Int} (hal : a ≤ last) (hseg : cseg (opK sg) (argK tl) (wvC w nw) a last 32 f) (hl4 : last ≤ 400) : ∃ r', am_call am_B am_M (d + 2) 96 [.inr (.inr (some t)), .inl (a : Int), .inr (.inr (some wq)), .inr (.inr (some sq))] (G, I, P) = some (some (.inl (f.getD (-2000000000))), (G, am_u1 I sq r', P)) := by
  have key : ∃ f0 res, ck (opK sg) (argK tl) (wvC w nw) last f0 a 0 (I sq) = some res ∧ ckv res = f.getD (-2000000000) := by
    cases f with
    | none =>
      obtain ⟨f0, res, h1, h2⟩ := (hseg last 0 (I sq) (fun res => res = none) (Nat.le_refl _) hl4 (by omega)).2 rfl rfl
      exact ⟨f0, res, h1, by rw [h2]; rfl⟩
    | some v =>
      obtain ⟨f0, res, h1, r0, h2, h3⟩ := (hseg last 0 (I sq) (fun res => ∃ r0, res = some (0 + 1, r0) ∧ r0 0 = v) (Nat.le_refl _) hl4 (by omega)).1 v rfl (fun r' _ e => ckE_end (Nat.le_refl _) ⟨r', rfl, e⟩)
      exact ⟨f0, res, h1, by rw [h2, ckv_t rfl, h3]; rfl⟩
  obtain ⟨f0, res, h1, h2⟩ := key
  have w : am_ex (am_call am_B am_M (d + 1)) (am_B 96) (am_B 96 0) [some (.inr (.inr (some t))), some (.inl (a : Int)), some (.inr (.inr (some wq))), some (.inr (.inr (some sq))), none, none, none, none, none] [] (G, I, P) (fun o => ∃ r', o = (some (.inl (ckv res)), (G, am_u1 I sq r', P))) := by
    refine (ex_0 (ex_7_4 rfl (ex_4_1 (ex_7_5 rfl (ex_58 ?_)))))
    have := l_ck (d := d) (st := (a : Int)) ht hp hcs hsz hszC hC hws hss hn1 hn2 hn3 hcode hw hnw hlast hend (res := res) f0 a 0 (I sq) (fun _ => none) h1 hal (fun j hj => absurd hj (by omega))
    rw [u1_self] at this
    exact this
  obtain ⟨o, e, r', rfl⟩ := am_doQ (as := [.inr (.inr (some t)), .inl (a : Int), .inr (.inr (some wq)), .inr (.inr (some sq))]) (Nat.le_of_ble_eq_true rfl) rfl w
  rw [h2] at e
  exact ⟨r', e⟩
