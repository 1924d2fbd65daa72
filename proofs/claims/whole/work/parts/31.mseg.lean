/-! ===== pieces of code and what they come to; what a law says (the reference) ===== -/
def rkE (op arg : Nat → Int) (wv : Int → Int → Option Int) (last k n : Nat) (r : Nat → Int) (Q : Option (Nat × (Nat → Int)) → Prop) : Prop := ∃ f res, rk op arg wv last f k n r = some res ∧ Q res
section RK
variable {op arg : Nat → Int} {wv : Int → Int → Option Int} {last k n : Nat} {r : Nat → Int} {res : Option (Nat × (Nat → Int)) → Prop}
theorem rkE_end (h : last ≤ k) (q : res (some (n, r))) : rkE op arg wv last k n r res := ⟨1, _, by rw [rk, if_pos h], q⟩
theorem rkE_push {v : Int} (hk : k < last) (ho : 0 ≤ op k ∧ op k < 20) (hn : n < 400) (hv : rkv wv (op k) (arg k) = some v) (hb : rkb v) (h : rkE op arg wv last (k + 1) (n + 1) (am_u1 r n v) res) : rkE op arg wv last k n r res := by
  obtain ⟨f, re, e, q⟩ := h
  refine ⟨f + 1, re, ?_, q⟩
  rw [rk, if_neg (by omega), if_pos ho.2, if_pos ⟨ho.1, hn, by rw [hv]; exact decide_eq_true hb⟩, hv]
  exact e
theorem rkE_bin {m : Nat} (hk : k < last) (ho : 20 ≤ op k ∧ op k < 28) (hn : m + 2 ≤ 400) (hz : ¬ m_dz (op k) (r (m + 1))) (hb : rkb (m_rv (op k) (r m) (r (m + 1)))) (h : rkE op arg wv last (k + 1) (m + 1) (am_u1 r m (m_rv (op k) (r m) (r (m + 1)))) res) : rkE op arg wv last k (m + 2) r res := by
  obtain ⟨f, re, e, q⟩ := h
  refine ⟨f + 1, re, ?_, q⟩
  rw [rk, if_neg (by omega), if_neg (by omega), if_pos ho.2, if_pos ⟨by omega, hn⟩, show m + 2 - 1 = m + 1 by omega, show m + 2 - 2 = m by omega, if_neg]
  · exact e
  · rintro (z | z)
    · exact hz z
    · exact z hb
theorem rkE_bin0 {m : Nat} (hk : k < last) (ho : 20 ≤ op k ∧ op k < 28) (hn : m + 2 ≤ 400) (hz : m_dz (op k) (r (m + 1)) ∨ ¬ rkb (m_rv (op k) (r m) (r (m + 1)))) (q : res none) : rkE op arg wv last k (m + 2) r res := by
  refine ⟨1, none, ?_, q⟩
  rw [rk, if_neg (by omega), if_neg (by omega), if_pos ho.2, if_pos ⟨by omega, hn⟩, show m + 2 - 1 = m + 1 by omega, show m + 2 - 2 = m by omega]
  exact if_pos hz
theorem rkE_not {m : Nat} (hk : k < last) (ho : op k = 28) (hn : m + 1 ≤ 400) (h01 : r m = 0 ∨ r m = 1) (h : rkE op arg wv last (k + 1) (m + 1) (am_u1 r m (1 - r m)) res) : rkE op arg wv last k (m + 1) r res := by
  obtain ⟨f, re, e, q⟩ := h
  refine ⟨f + 1, re, ?_, q⟩
  rw [rk, if_neg (by omega), if_neg (by omega), if_neg (by omega), if_pos ho, show m + 1 - 1 = m by omega, if_pos ⟨⟨by omega, hn⟩, h01⟩]
  exact e
theorem rkE_jump {m c : Nat} (hk : k < last) (ho : op k = 29 ∨ op k = 30) (hn : m + 1 ≤ 400) (ha : arg k = (c : Int)) (hc : c ≤ 400) (hj : r m = if op k = 29 then 0 else 1) (h : rkE op arg wv last c (m + 1) r res) : rkE op arg wv last k (m + 1) r res := by
  obtain ⟨f, re, e, q⟩ := h
  refine ⟨f + 1, re, ?_, q⟩
  rw [rk, if_neg (by omega), if_neg (by omega), if_neg (by omega), if_neg (by omega), show m + 1 - 1 = m by omega, if_pos ⟨⟨by omega, hn⟩, by omega, by omega⟩, if_pos hj, ha, Int.toNat_natCast]
  exact e
theorem rkE_go {m c : Nat} (hk : k < last) (ho : op k = 29 ∨ op k = 30) (hn : m + 1 ≤ 400) (ha : arg k = (c : Int)) (hc : c ≤ 400) (hj : ¬ r m = if op k = 29 then 0 else 1) (h : rkE op arg wv last (k + 1) m r res) : rkE op arg wv last k (m + 1) r res := by
  obtain ⟨f, re, e, q⟩ := h
  refine ⟨f + 1, re, ?_, q⟩
  rw [rk, if_neg (by omega), if_neg (by omega), if_neg (by omega), if_neg (by omega), show m + 1 - 1 = m by omega, if_pos ⟨⟨by omega, hn⟩, by omega, by omega⟩, if_neg hj]
  exact e
end RK
/-- the code from a up to b comes to f (none: broken), within D places -/
def mseg (op arg : Nat → Int) (wv : Int → Int → Option Int) (a b D : Nat) (f : Option Int) : Prop := ∀ (last n : Nat) (r : Nat → Int) (res : Option (Nat × (Nat → Int)) → Prop), b ≤ last → last ≤ 400 → n + D ≤ 400 → (∀ v, f = some v → (∀ r', (∀ j, j < n → r' j = r j) → r' n = v → rkE op arg wv last b (n + 1) r' res) → rkE op arg wv last a n r res) ∧ (f = none → res none → rkE op arg wv last a n r res)
def m_rck (o a b : Int) : Option Int := if ((o = 23 ∨ o = 24) ∧ b = 0) ∨ ¬ (-1000000000 ≤ m_rv o a b ∧ m_rv o a b ≤ 1000000000) then none else some (m_rv o a b)
def f_bin (o : Int) (f g : Option Int) : Option Int := match f, g with
  | some x, some y => m_rck o x y
  | _, _ => none
def f_not (f : Option Int) : Option Int := f.map (fun x => 1 - x)
def f_and (f g : Option Int) : Option Int := if f = some 0 then some 0 else if f = some 1 then g else none
def f_or (f g : Option Int) : Option Int := if f = some 1 then some 1 else if f = some 0 then g else none
def f_01 (f : Option Int) : Prop := f = none ∨ f = some 0 ∨ f = some 1
section MSEG
variable {op arg : Nat → Int} {wv : Int → Int → Option Int} {a b c D D' E : Nat} {f g : Option Int}
theorem rk_congr {op op' arg arg' : Nat → Int} {wv : Int → Int → Option Int} {last : Nat} (h : ∀ k, k < last → op' k = op k ∧ arg' k = arg k) : ∀ (f k n : Nat) (r : Nat → Int), rk op' arg' wv last f k n r = rk op arg wv last f k n r
  | 0, _, _, _ => rfl
  | f + 1, k, n, r => by
    rw [rk, rk]
    by_cases hk : last ≤ k
    · rw [if_pos hk, if_pos hk]
    · rw [if_neg hk, if_neg hk, (h k (by omega)).1, (h k (by omega)).2, rk_congr h f, rk_congr h f, rk_congr h f, rk_congr h f, rk_congr h f]
theorem mseg_congr {op' arg' : Nat → Int} (e : ∀ k, k < 400 → op' k = op k ∧ arg' k = arg k) (h : mseg op arg wv a b D f) : mseg op' arg' wv a b D f := by
  intro last n r res h1 h4 h2
  have key : ∀ k n r (Q : Option (Nat × (Nat → Int)) → Prop), rkE op' arg' wv last k n r Q ↔ rkE op arg wv last k n r Q := by
    intro k n r Q
    unfold rkE
    have : ∀ f, rk op' arg' wv last f k n r = rk op arg wv last f k n r := fun f => rk_congr (fun k hk => e k (by omega)) f k n r
    constructor
    · rintro ⟨f, res, e1, q⟩; exact ⟨f, res, by rw [← this f]; exact e1, q⟩
    · rintro ⟨f, res, e1, q⟩; exact ⟨f, res, by rw [this f]; exact e1, q⟩
  obtain ⟨g1, g2⟩ := h last n r res h1 h4 h2
  refine ⟨fun v hv z => (key _ _ _ _).mpr (g1 v hv (fun r' e1 e2 => (key _ _ _ _).mp (z r' e1 e2))), fun hv q => (key _ _ _ _).mpr (g2 hv q)⟩
theorem mseg_more (h : mseg op arg wv a b D f) (hD : D ≤ E) : mseg op arg wv a b E f := fun last n r res h1 h4 h2 => h last n r res h1 h4 (by omega)
theorem mseg_push {v : Int} (ho : 0 ≤ op a ∧ op a < 20) (hv : rkv wv (op a) (arg a) = some v) (hb : rkb v) : mseg op arg wv a (a + 1) 1 (some v) := by
  intro last n r res h1 h4 h2
  refine ⟨fun v' hv' z => ?_, fun z => (by cases z)⟩
  cases hv'
  refine rkE_push (by omega) ho (by omega) hv hb (z _ (fun j hj => ?_) ?_)
  · unfold am_u1; rw [if_neg (by omega)]
  · unfold am_u1; rw [if_pos rfl]
theorem mseg_bin (h1 : mseg op arg wv a b D f) (h2 : mseg op arg wv b c D' g) (ho : 20 ≤ op c ∧ op c < 28) (hbc : b ≤ c) (hD : 1 ≤ D') : mseg op arg wv a (c + 1) (max D (D' + 1)) (f_bin (op c) f g) := by
  intro last n r res hl h4 hn
  have hn1 : n + D ≤ 400 := by omega
  have hn2 : n + 1 + D' ≤ 400 := by omega
  cases f with
  | none =>
    refine ⟨fun v hv => ?_, fun _ q => (h1 last n r res (by omega) h4 hn1).2 rfl q⟩
    unfold f_bin at hv
    cases hv
  | some x =>
    cases g with
    | none =>
      refine ⟨fun v hv => ?_, fun _ q => (h1 last n r res (by omega) h4 hn1).1 x rfl (fun r' _ _ => (h2 last (n + 1) r' res (by omega) h4 hn2).2 rfl q)⟩
      unfold f_bin at hv
      cases hv
    | some y =>
      show (∀ v, m_rck (op c) x y = some v → _) ∧ (m_rck (op c) x y = none → _)
      have key : ∀ res', (∀ r'', (∀ j, j < n → r'' j = r j) → r'' n = x → r'' (n + 1) = y → rkE op arg wv last c (n + 2) r'' res') → rkE op arg wv last a n r res' := by
        intro res' z
        refine (h1 last n r res' (by omega) h4 hn1).1 x rfl (fun r' e1 e2 => ?_)
        refine (h2 last (n + 1) r' res' (by omega) h4 hn2).1 y rfl (fun r'' e3 e4 => ?_)
        exact z r'' (fun j hj => (e3 j (by omega)).trans (e1 j hj)) ((e3 n (by omega)).trans e2) e4
      unfold m_rck
      refine ⟨fun v hv z => ?_, fun hv q => ?_⟩
      · split at hv
        · cases hv
        · rename_i hq
          cases hv
          refine key res (fun r'' e1 e2 e3 => ?_)
          refine rkE_bin (by omega) ho (by omega) ?_ ?_ (z _ (fun j hj => ?_) ?_)
          · intro hz; apply hq; left; unfold m_dz at hz; rw [e3] at hz; exact hz
          · rw [e2, e3]; exact Classical.byContradiction fun q => hq (Or.inr q)
          · unfold am_u1; rw [if_neg (by omega)]; exact e1 j hj
          · unfold am_u1; rw [if_pos rfl, e2, e3]
      · split at hv
        · rename_i hq
          refine key res (fun r'' e1 e2 e3 => rkE_bin0 (by omega) ho (by omega) ?_ q)
          rw [e2, e3]
          exact hq
        · cases hv
theorem mseg_not (h1 : mseg op arg wv a b D f) (ho : op b = 28) (h01 : f_01 f) (hD : 1 ≤ D) : mseg op arg wv a (b + 1) D (f_not f) := by
  intro last n r res hl h4 hn
  refine ⟨fun v hv z => ?_, fun hv q => ?_⟩
  · cases f with
    | none => cases hv
    | some x =>
      cases hv
      refine (h1 last n r res (by omega) h4 hn).1 x rfl (fun r' e1 e2 => ?_)
      have hx : x = 0 ∨ x = 1 := by
        rcases h01 with h | h | h
        · cases h
        · cases h; exact Or.inl rfl
        · cases h; exact Or.inr rfl
      refine rkE_not (by omega) ho (by omega) (by rw [e2]; exact hx) (z _ (fun j hj => ?_) ?_)
      · unfold am_u1; rw [if_neg (by omega)]; exact e1 j hj
      · unfold am_u1; rw [if_pos rfl, e2]
  · cases f with
    | none => exact (h1 last n r res (by omega) h4 hn).2 rfl q
    | some x => cases hv
theorem mseg_and (h1 : mseg op arg wv a b D f) (h2 : mseg op arg wv (b + 1) c D' g) (ho : op b = 29) (ha : arg b = (c : Int)) (hbc : b < c) (hc : c ≤ 400) (h01 : f_01 f) (hD : 1 ≤ D) : mseg op arg wv a c (max D D') (f_and f g) := by
  intro last n r res hl h4 hn
  have hn1 : n + D ≤ 400 := by omega
  have hn2 : n + D' ≤ 400 := by omega
  rcases h01 with rfl | rfl | rfl
  · exact ⟨fun v hv => (by cases hv), fun _ q => (h1 last n r res (by omega) h4 hn1).2 rfl q⟩
  · refine ⟨fun v hv z => ?_, fun hv => (by cases hv)⟩
    have hv : some (0 : Int) = some v := hv
    cases hv
    refine (h1 last n r res (by omega) h4 hn1).1 0 rfl (fun r' e1 e2 => ?_)
    exact rkE_jump (by omega) (Or.inl ho) (by omega) ha hc (by rw [if_pos ho, e2]) (z r' e1 e2)
  · have key : ∀ res', (∀ r', (∀ j, j < n → r' j = r j) → rkE op arg wv last (b + 1) n r' res') → rkE op arg wv last a n r res' := by
      intro res' z
      refine (h1 last n r res' (by omega) h4 hn1).1 1 rfl (fun r' e1 e2 => ?_)
      exact rkE_go (by omega) (Or.inl ho) (by omega) ha hc (by rw [if_pos ho, e2]; decide) (z r' e1)
    show (∀ v, g = some v → _) ∧ (g = none → _)
    refine ⟨fun v hv z => ?_, fun hv q => ?_⟩
    · refine key res (fun r' e1 => (h2 last n r' res (by omega) h4 hn2).1 v hv (fun r'' e3 e4 => z r'' (fun j hj => (e3 j hj).trans (e1 j hj)) e4))
    · exact key res (fun r' e1 => (h2 last n r' res (by omega) h4 hn2).2 hv q)
theorem mseg_or (h1 : mseg op arg wv a b D f) (h2 : mseg op arg wv (b + 1) c D' g) (ho : op b = 30) (ha : arg b = (c : Int)) (hbc : b < c) (hc : c ≤ 400) (h01 : f_01 f) (hD : 1 ≤ D) : mseg op arg wv a c (max D D') (f_or f g) := by
  intro last n r res hl h4 hn
  have hn1 : n + D ≤ 400 := by omega
  have hn2 : n + D' ≤ 400 := by omega
  rcases h01 with rfl | rfl | rfl
  · exact ⟨fun v hv => (by cases hv), fun _ q => (h1 last n r res (by omega) h4 hn1).2 rfl q⟩
  · have key : ∀ res', (∀ r', (∀ j, j < n → r' j = r j) → rkE op arg wv last (b + 1) n r' res') → rkE op arg wv last a n r res' := by
      intro res' z
      refine (h1 last n r res' (by omega) h4 hn1).1 0 rfl (fun r' e1 e2 => ?_)
      exact rkE_go (by omega) (Or.inr ho) (by omega) ha hc (by rw [if_neg (by omega), e2]; decide) (z r' e1)
    show (∀ v, g = some v → _) ∧ (g = none → _)
    refine ⟨fun v hv z => ?_, fun hv q => ?_⟩
    · refine key res (fun r' e1 => (h2 last n r' res (by omega) h4 hn2).1 v hv (fun r'' e3 e4 => z r'' (fun j hj => (e3 j hj).trans (e1 j hj)) e4))
    · exact key res (fun r' e1 => (h2 last n r' res (by omega) h4 hn2).2 hv q)
  · refine ⟨fun v hv z => ?_, fun hv => (by cases hv)⟩
    have hv : some (1 : Int) = some v := hv
    cases hv
    refine (h1 last n r res (by omega) h4 hn1).1 1 rfl (fun r' e1 e2 => ?_)
    exact rkE_jump (by omega) (Or.inr ho) (by omega) ha hc (by rw [if_neg (by omega), e2]) (z r' e1 e2)
end MSEG
/-- all but the places where sums are worked out -/
def FR (I J : Nat → Nat → Int) : Prop := ∀ q k, ¬ q = 228 → ¬ (q = 208 ∧ (k = 38 ∨ k = 39 ∨ k = 40)) → J q k = I q k
theorem FR_refl {I : Nat → Nat → Int} : FR I I := fun _ _ _ _ => rfl
theorem FR_trans {I J K : Nat → Nat → Int} (h : FR I J) (h2 : FR J K) : FR I K := fun q k a b => (h2 q k a b).trans (h q k a b)
theorem FR_q {I J : Nat → Nat → Int} (h : FR I J) {q : Nat} (h1 : ¬ q = 228) (h2 : ¬ q = 208) : J q = I q := funext fun k => h q k h1 (fun z => h2 z.1)
theorem FR_1 {I : Nat → Nat → Int} {r : Nat → Int} {x v : Int} : FR I (am_u2 (am_u2 (am_u1 I 228 r) 208 38 x) 208 39 v) := by
  intro q k h1 h2
  by_cases h : q = 208
  · subst h
    rw [u2_k (by omega), u2_k (by omega), u1_q (by decide)]
  · rw [u2_q h, u2_q h, u1_q h1]
theorem FR_40 {I : Nat → Nat → Int} {v : Int} : FR I (am_u2 I 208 40 v) := by
  intro q k h1 h2
  by_cases h : q = 208
  · subst h
    rw [u2_k (by omega)]
  · rw [u2_q h]
theorem c_rkAllL {d : Nat} {G : am_G} {I : Nat → Nat → Int} {P : Nat → Nat → Option Nat} {fi : Nat} {op arg : Nat → Int} {wv : Int → Int → Option Int} {last : Nat} {QQ : Option (Nat × (Nat → Int)) → Prop} (hS : ST G P) (h20 : I 208 20 = 0) {lw : Nat} (h34 : I 208 34 = (lw : Int)) (hlw : lw + 900 ≤ 5500) (hop : ∀ k, k < last → I 210 (lw + 98 + 2 * k) = op k ∧ I 210 (lw + 98 + 2 * k + 1) = arg k) (hlast : last ≤ 400) (hwv : ∀ o a v, wv o a = some v → 1 ≤ o → o < 20 → o < 13 ∧ I 226 o.toNat = v) (hrk : rkE op arg wv last fi 0 (I 228) QQ) (hn4 : ∀ n r, QQ (some (n, r)) → n ≤ 400) : ∃ I1, am_call am_B am_M (d + 4) 228 [.inr (.inr (some 208)), .inl (fi : Int), .inl (last : Int)] (G, I, P) = some (none, (G, I1, P)) ∧ FR I I1 ∧ ∃ res, QQ res ∧ (res = none → I1 208 38 = 1) ∧ (∀ n0 r0, res = some (n0 + 1, r0) → I1 208 38 = 0 ∧ I1 208 39 = r0 0) := by
  obtain ⟨f, res, hrk, hq⟩ := hrk
  have hn4 : ∀ n r, res = some (n, r) → n ≤ 400 := fun n r e => hn4 n r (e ▸ hq)
  have w : am_ex (am_call am_B am_M (d + 3)) (am_B 228) (am_B 228 0) [some (.inr (.inr (some 208))), some (.inl (fi : Int)), some (.inl (last : Int)), none, none, none, none] [] (G, I, P) (fun o => ∃ I1, o = (none, (G, I1, P)) ∧ FR I I1 ∧ (res = none → I1 208 38 = 1) ∧ (∀ n0 r0, res = some (n0 + 1, r0) → I1 208 38 = 0 ∧ I1 208 39 = r0 0)) := by
    refine (ex_6_0 (ex_0 (ix_42z (sh_208 hS) (by decide) (ex_0 (ex_7_3 rfl (ex_4_1 (ex_7_4 rfl (ex_58 ?_))))))))
    rw [show am_u2 I 208 38 0 = am_u2 (am_u1 I 228 (I 228)) 208 38 0 from by rw [u1_self]]
    refine l_rkL (fi := (fi : Int)) (res := res) hS h20 h34 hlw hop hlast hwv ?_ ?_ f fi 0 (I 228) (fun k_ => ([some (.inr (.inr (some 208))), some (.inl (fi : Int)), some (.inl (last : Int)), some (.inl 0), some (.inl (fi : Int)), none, none] : am_L).getD k_ none) hrk (fun j hj => absurd hj (by omega))
    · intro n k r e hres
      have hn := hn4 n r hres
      refine (ex_6_0 (ex_4_3 ?_))
      refine ex_if5 (fun hc368 => ?_) (fun hc368 => ?_)
      · refine (ex_1 (ex_58 (ix_42l (sh_208 hS) ?_)))
        exact ex_56 ⟨_, rfl, FR_1, fun q => (by rw [hres] at q; cases q), fun n0 r0 q => (by rw [hres] at q; cases q; exfalso; omega)⟩
      · refine (ex_6_0 (ix_41r (sh_208 hS) (pt_208_37 hS) (ex_0 (ix_32 (j := 0) (sh_228 hS) (by decide) (by decide) rfl ((u2_q (by decide)).trans (congrFun u1_e _)) (ex_28 (ix_42l (sh_208 hS) ?_))))))
        exact ex_56 ⟨_, rfl, FR_1, fun q => (by rw [hres] at q; cases q), fun n0 r0 q => (by rw [hres] at q; cases q; exact ⟨(u2_k (by decide)).trans u2_e, u2_e⟩)⟩
    · intro n k r e hn hres
      skip
      refine (ex_6_0 (ex_4_3 ?_))
      refine ex_if5 (fun hc368 => ?_) (fun hc368 => ?_)
      · refine (ex_1 (ex_58 (ix_42l (sh_208 hS) ?_)))
        exact ex_56 ⟨_, rfl, FR_1, fun q => (u2_k (by decide)).trans u2_e, fun n0 r0 q => (by rw [hres] at q; cases q)⟩
      · refine (ex_6_0 (ix_41r (sh_208 hS) (pt_208_37 hS) (ex_0 (ix_32 (j := 0) (sh_228 hS) (by decide) (by decide) rfl ((u2_q (by decide)).trans (congrFun u1_e _)) (ex_28 (ix_42l (sh_208 hS) ?_))))))
        exact ex_56 ⟨_, rfl, FR_1, fun q => (u2_k (by decide)).trans u2_e, fun n0 r0 q => (by rw [hres] at q; cases q)⟩
  obtain ⟨o, e, I1, rfl, h⟩ := am_doQ (as := [.inr (.inr (some 208)), .inl (fi : Int), .inl (last : Int)]) (Nat.le_of_ble_eq_true rfl) rfl w
  exact ⟨I1, e, h.1, res, hq, h.2⟩
theorem c_rkAllO {d : Nat} {G : am_G} {I : Nat → Nat → Int} {P : Nat → Nat → Option Nat} {fi : Nat} {op arg : Nat → Int} {wv : Int → Int → Option Int} {last : Nat} {QQ : Option (Nat × (Nat → Int)) → Prop} (hS : ST G P) (h20 : I 208 20 = 1) (hop : ∀ k, k < last → I 219 k = op k ∧ I 220 k = arg k) (hlast : last ≤ 400) (h0 : 0 ≤ I 210 0 ∧ I 210 0 ≤ 6) (h1 : 0 ≤ I 210 1 ∧ I 210 1 ≤ 5) (hwv : ∀ o a v, wv o a = some v → 1 ≤ o → o < 20 → (o < 6 ∧ I 227 o.toNat = v) ∨ (o = 6 ∧ 0 ≤ a ∧ a < I 210 0 ∧ I 210 (9 + a.toNat) = v) ∨ (o = 6 ∧ 0 ≤ a ∧ ¬ a < I 210 0 ∧ -1 = v) ∨ (o = 7 ∧ 0 ≤ a ∧ a < I 210 1 ∧ I 210 (15 + a.toNat) = v) ∨ (o = 7 ∧ 0 ≤ a ∧ ¬ a < I 210 1 ∧ -1 = v)) (hrk : rkE op arg wv last fi 0 (I 228) QQ) (hn4 : ∀ n r, QQ (some (n, r)) → n ≤ 400) : ∃ I1, am_call am_B am_M (d + 4) 228 [.inr (.inr (some 208)), .inl (fi : Int), .inl (last : Int)] (G, I, P) = some (none, (G, I1, P)) ∧ FR I I1 ∧ ∃ res, QQ res ∧ (res = none → I1 208 38 = 1) ∧ (∀ n0 r0, res = some (n0 + 1, r0) → I1 208 38 = 0 ∧ I1 208 39 = r0 0) := by
  obtain ⟨f, res, hrk, hq⟩ := hrk
  have hn4 : ∀ n r, res = some (n, r) → n ≤ 400 := fun n r e => hn4 n r (e ▸ hq)
  have w : am_ex (am_call am_B am_M (d + 3)) (am_B 228) (am_B 228 0) [some (.inr (.inr (some 208))), some (.inl (fi : Int)), some (.inl (last : Int)), none, none, none, none] [] (G, I, P) (fun o => ∃ I1, o = (none, (G, I1, P)) ∧ FR I I1 ∧ (res = none → I1 208 38 = 1) ∧ (∀ n0 r0, res = some (n0 + 1, r0) → I1 208 38 = 0 ∧ I1 208 39 = r0 0)) := by
    refine (ex_6_0 (ex_0 (ix_42z (sh_208 hS) (by decide) (ex_0 (ex_7_3 rfl (ex_4_1 (ex_7_4 rfl (ex_58 ?_))))))))
    rw [show am_u2 I 208 38 0 = am_u2 (am_u1 I 228 (I 228)) 208 38 0 from by rw [u1_self]]
    refine l_rkO (fi := (fi : Int)) (res := res) hS h20 hop hlast h0 h1 hwv ?_ ?_ f fi 0 (I 228) (fun k_ => ([some (.inr (.inr (some 208))), some (.inl (fi : Int)), some (.inl (last : Int)), some (.inl 0), some (.inl (fi : Int)), none, none] : am_L).getD k_ none) hrk (fun j hj => absurd hj (by omega))
    · intro n k r e hres
      have hn := hn4 n r hres
      refine (ex_6_0 (ex_4_3 ?_))
      refine ex_if5 (fun hc368 => ?_) (fun hc368 => ?_)
      · refine (ex_1 (ex_58 (ix_42l (sh_208 hS) ?_)))
        exact ex_56 ⟨_, rfl, FR_1, fun q => (by rw [hres] at q; cases q), fun n0 r0 q => (by rw [hres] at q; cases q; exfalso; omega)⟩
      · refine (ex_6_0 (ix_41r (sh_208 hS) (pt_208_37 hS) (ex_0 (ix_32 (j := 0) (sh_228 hS) (by decide) (by decide) rfl ((u2_q (by decide)).trans (congrFun u1_e _)) (ex_28 (ix_42l (sh_208 hS) ?_))))))
        exact ex_56 ⟨_, rfl, FR_1, fun q => (by rw [hres] at q; cases q), fun n0 r0 q => (by rw [hres] at q; cases q; exact ⟨(u2_k (by decide)).trans u2_e, u2_e⟩)⟩
    · intro n k r e hn hres
      skip
      refine (ex_6_0 (ex_4_3 ?_))
      refine ex_if5 (fun hc368 => ?_) (fun hc368 => ?_)
      · refine (ex_1 (ex_58 (ix_42l (sh_208 hS) ?_)))
        exact ex_56 ⟨_, rfl, FR_1, fun q => (u2_k (by decide)).trans u2_e, fun n0 r0 q => (by rw [hres] at q; cases q)⟩
      · refine (ex_6_0 (ix_41r (sh_208 hS) (pt_208_37 hS) (ex_0 (ix_32 (j := 0) (sh_228 hS) (by decide) (by decide) rfl ((u2_q (by decide)).trans (congrFun u1_e _)) (ex_28 (ix_42l (sh_208 hS) ?_))))))
        exact ex_56 ⟨_, rfl, FR_1, fun q => (u2_k (by decide)).trans u2_e, fun n0 r0 q => (by rw [hres] at q; cases q)⟩
  obtain ⟨o, e, I1, rfl, h⟩ := am_doQ (as := [.inr (.inr (some 208)), .inl (fi : Int), .inl (last : Int)]) (Nat.le_of_ble_eq_true rfl) rfl w
  exact ⟨I1, e, h.1, res, hq, h.2⟩
