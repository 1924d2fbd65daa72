/-! ===== calls that change: the general step ===== -/
/-- a row's part that a deed changes, and the rest -/
def mix (a b : Nat → Int) (j : Nat) : Int := if 5 ≤ j ∧ j < 30 then a j else b j
theorem mix_in {a b : Nat → Int} {j : Nat} (h : 5 ≤ j ∧ j < 30) : mix a b j = a j := if_pos h
theorem mix_out {a b : Nat → Int} {j : Nat} (h : ¬ (5 ≤ j ∧ j < 30)) : mix a b j = b j := if_neg h
theorem RW_mix {a b : Nat → Int} (ha : RW a) (hb : RW b) : RW (mix a b) := by
  unfold RW
  refine ⟨?_, ?_, ?_, ?_, ?_, ?_, ?_, ?_, ?_, ?_, ?_, ?_, ?_, ?_, ?_, ?_, ?_, ?_, ?_, ?_, ?_, ?_⟩
  · rw [mix_out (by decide)]; exact RW_n0 hb
  · rw [mix_out (by decide)]; exact RW_n1 hb
  · rw [mix_out (by decide)]; exact RW_n2 hb
  · rw [mix_out (by decide)]; exact RW_n3 hb
  · rw [mix_out (by decide), mix_out (by decide)]; exact RW_fo hb
  · rw [mix_in (by decide)]; exact RW_ni ha
  · rw [mix_in (by decide)]; exact RW_fa ha
  · rw [mix_in (by decide)]; exact RW_mo ha
  · rw [mix_in (by decide)]; exact RW_sm ha
  · intro x hx; rw [mix_in (by omega)]; exact RW_at ha x hx
  · intro x hx; rw [mix_in (by omega)]; exact RW_en ha x hx
  · intro x hx; rw [mix_in (by omega)]; exact RW_we ha x hx
  · intro x hx; rw [mix_in (by omega)]; exact RW_kn ha x hx
  · intro x hx; rw [mix_out (by omega)]; exact RW_ki hb x hx
  · intro x hx; rw [mix_out (by omega)]; exact RW_ra hb x hx
  · intro x hx; rw [mix_out (by omega)]; exact RW_by hb x hx
  · intro x hx; rw [mix_out (by omega)]; exact RW_ea hb x hx
  · intro x hx; rw [mix_out (by omega)]; exact RW_ro hb x hx
  · intro b_ o_ h1 h2; rw [mix_out (by omega), mix_out (by omega)]; exact RW_rs hb b_ o_ h1 h2
  · intro x hx; rw [mix_out (by omega)]; exact RW_rd hb x hx
  · intro x hx; rw [mix_out (by omega), mix_out (by omega)]; exact RW_he hb x hx
  · intro k hk; have := RW_n2 hb; rw [mix_out (by decide)] at hk; rw [mix_out (by omega), mix_out (by decide)]; exact RW_hf hb k hk
theorem und_mix {ρ ρ' : Nat → Int} {d w b : Int} (he : eok d w b) (h : ∀ j, 5 ≤ j → j < 30 → ρ' j = ρ j) : (∀ j, 5 ≤ j → j < 30 → und d w b ρ' j = und d w b ρ j) ∧ (∀ j, ¬ (5 ≤ j ∧ j < 30) → und d w b ρ' j = ρ' j) := by
  refine ⟨fun j h1 h2 => ?_, fun j hj => und_out he (by omega)⟩
  unfold und
  rcases he with ⟨rfl, h3, h4, h5⟩ | ⟨rfl, h3, h4, h5⟩ | ⟨rfl, h5⟩ | ⟨rfl, h5⟩
  · rw [if_pos rfl, if_pos rfl]
    by_cases q : w < 5
    · rw [if_pos q, if_pos q]; unfold am_u1; split; rfl; exact h j h1 h2
    · rw [if_neg q, if_neg q]; unfold am_u1; split; rfl; exact h j h1 h2
  · rw [if_neg (by decide), if_pos rfl, if_neg (by decide), if_pos rfl]; unfold am_u1; split; rfl; exact h j h1 h2
  · rw [if_neg (by decide), if_neg (by decide), if_pos rfl, if_neg (by decide), if_neg (by decide), if_pos rfl]; unfold am_u1; split; rfl; exact h j h1 h2
  · rw [if_neg (by decide), if_neg (by decide), if_neg (by decide), if_neg (by decide), if_neg (by decide), if_neg (by decide)]
    unfold am_u1
    split
    · rw [h 5 (by decide) (by decide)]
    · by_cases q : 9 ≤ j ∧ j < 9 + 6
      · rw [cp_in q, cp_in q]
      · rw [cp_out q, cp_out q]; exact h j h1 h2
theorem unw_mix : ∀ (l : List De) (k : Nat) (ρ ρ' : Nat → Int), (∀ i, i < l.length → eok (l.getD i dz).1 (l.getD i dz).2.1 (l.getD i dz).2.2) → (∀ j, 5 ≤ j → j < 30 → ρ' j = ρ j) → (∀ j, 5 ≤ j → j < 30 → unw ρ' l k j = unw ρ l k j) ∧ (∀ j, ¬ (5 ≤ j ∧ j < 30) → unw ρ' l k j = ρ' j)
  | [], k, ρ, ρ', _, h => by cases k <;> exact ⟨h, fun _ _ => rfl⟩
  | x :: l, 0, ρ, ρ', _, h => ⟨h, fun _ _ => rfl⟩
  | x :: l, k + 1, ρ, ρ', he, h => by
    have e0 := he 0 (by show 0 < l.length + 1; omega)
    obtain ⟨a, b⟩ := und_mix (ρ := ρ) (ρ' := ρ') e0 h
    obtain ⟨c, d⟩ := unw_mix l k (und x.1 x.2.1 x.2.2 ρ) (und x.1 x.2.1 x.2.2 ρ') (fun i hi => he (i + 1) (by show i + 1 < l.length + 1; omega)) a
    exact ⟨c, fun j hj => (d j hj).trans (b j hj)⟩
theorem WR_mix {ρ ρ' : Nat → Int} {lg : List De} (h : WR ρ lg) (hR : RW ρ') (e : ∀ j, 5 ≤ j → j < 30 → ρ' j = ρ j) : WR ρ' lg := by
  obtain ⟨h1, h2, h3⟩ := h
  refine ⟨h1, fun i hi => ?_, h3⟩
  obtain ⟨a, b⟩ := unw_mix lg i ρ ρ' (fun i hi => (h3 i hi).1) e
  have em : unw ρ' lg i = mix (unw ρ lg i) ρ' := by
    funext j
    by_cases q : 5 ≤ j ∧ j < 30
    · rw [mix_in q]; exact a j q.1 q.2
    · rw [mix_out q]; exact b j q
  rw [em]
  exact ⟨RW_mix (h2 i hi).1 hR, by rw [mix_in (by decide)]; exact (h2 i hi).2⟩
theorem MLg_mix {I : Nat → Nat → Int} {ρ ρ' : Nat → Int} {lg : List De} (hm : MLg I ρ lg) (h : WR ρ lg) (e : ∀ j, 5 ≤ j → j < 30 → ρ' j = ρ j) : MLg I ρ' lg := by
  obtain ⟨a, b, c⟩ := hm
  refine ⟨a, b, fun i hi => ?_⟩
  obtain ⟨c1, c2⟩ := c i hi
  refine ⟨c1, fun j hj => ?_⟩
  rw [c2 j hj]
  exact ((unw_mix lg (i + 1) ρ ρ' (fun i hi => (h.2.2 i hi).1) e).1 (5 + j) (by omega) (by omega)).symm
theorem TX_gr {G G1 : am_G} {I I1 : Nat → Nat → Int} {P P1 : Nat → Nat → Option Nat} {t n : Nat} {cl : Nat → Cl} (h : TX G I P t n cl) (ht : t + 6 < 64 + G.1) (hg : ∀ q, q < 64 + G.1 → G1.2.2 q = G.2.2 q) (hi : ∀ q k, 240 ≤ q → q < 64 + G.1 → I1 q k = I q k) (hp : ∀ q k, 240 ≤ q → q < 64 + G.1 → P1 q k = P q k) : TX G1 I1 P1 t n cl := by
  obtain ⟨h24, L, C, sz, sg, tl, ⟨h9, p0, s1, p1, s2, p4, s5, p6, s6, hn5, hnL, hn12, hsz, hszC, hC, hcode⟩, hj⟩ := h
  refine ⟨h24, L, C, sz, sg, tl, ⟨(hg _ (by omega)).trans h9, (hp _ _ (by omega) (by omega)).trans p0, (hg _ (by omega)).trans s1, (hp _ _ (by omega) (by omega)).trans p1, (hg _ (by omega)).trans s2, (hp _ _ (by omega) (by omega)).trans p4, (hg _ (by omega)).trans s5, (hp _ _ (by omega) (by omega)).trans p6, (hg _ (by omega)).trans s6, (hi _ _ (by omega) (by omega)).trans hn5, hnL, hn12, (hi _ _ (by omega) (by omega)).trans hsz, hszC, hC, fun k hk => by rw [hi _ _ (by omega) (by omega)]; exact hcode k hk⟩, fun j hj' => TCl_fr (hj j hj') (fun q k a b => hi q k (by omega) (by omega))⟩
theorem LWS_gr {G G1 : am_G} {I I1 : Nat → Nat → Int} {P P1 : Nat → Nat → Option Nat} {pc : Nat} {ρ : Nat → Int} {ll : Lw} (h : LWS G I P pc ρ ll) (hR : RW ρ) (h1 : G.1 ≤ G1.1) (hg : ∀ q, q < 64 + G.1 → G1.2.2 q = G.2.2 q) (hi : ∀ q k, 240 ≤ q → q < 64 + G.1 → I1 q k = I q k) (hp : ∀ q k, 240 ≤ q → q < 64 + G.1 → P1 q k = P q k) (h6 : ∀ j, j < 6 → P1 pc j = P pc j) : LWS G1 I1 P1 pc ρ ll := fun i hi' => by
  have := RW_n3 hR
  obtain ⟨t, p, b, x⟩ := h i hi'
  exact ⟨t, (h6 i (by omega)).trans p, by omega, TX_gr x b hg hi hp⟩
theorem TNs_gr {G G1 : am_G} {P P1 : Nat → Nat → Option Nat} {c : Nat} (h : TNs G P c) (h1 : G.1 ≤ G1.1) (hg : ∀ q, q < 64 + G.1 → G1.2.2 q = G.2.2 q) (h6 : ∀ j, j < 6 → P1 (c + 16) j = P (c + 16) j) : TNs G1 P1 c := fun k hk => by
  rw [h6 k hk]
  rcases h k hk with e | ⟨t, e, g, b⟩
  · exact Or.inl e
  · exact Or.inr ⟨t, e, (hg t b).trans g, by omega⟩
/-- the heap may have grown, what stood stands -/
def GRw (G G1 : am_G) (I I1 : Nat → Nat → Int) (P P1 : Nat → Nat → Option Nat) : Prop := (∀ q, q < 64 + G.1 → G1.2.2 q = G.2.2 q) ∧ G.1 ≤ G1.1 ∧ (∀ q k, 240 ≤ q → q < 64 + G.1 → I1 q k = I q k) ∧ (∀ q k, 240 ≤ q → q < 64 + G.1 → P1 q k = P q k) ∧ (∀ k, P1 190 k = P 190 k) ∧ (∀ k, P1 207 k = P 207 k)
/-- a call that changes all but images and what was drawn -/
theorem SP_gen {L : Nat} {xs : Nat → Int32} {c : Nat} {ρ : Nat → Int} {lg : List De} {ll : Lw} {tn : Nat} {tb : Nat → Int} {fa : Int} {wr : Int} {st : Int} {sp : Int} {rf : Nat → Int} {ik0 : Int} {ir0 : Nat → Int} {il0 : Lw} {ik1 : Int} {ir1 : Nat → Int} {il1 : Lw} {dk : Int} {dr : Nat → Int} {ρ' : Nat → Int} {lg' : List De} {ll' : Lw} {tn' : Nat} {tb' : Nat → Int} {fa' : Int} {wr' : Int} {st' : Int} {sp' : Int} {rf' : Nat → Int} {G G1 : am_G} {I I1 : Nat → Nat → Int} {P P1 : Nat → Nat → Option Nat} {y1 y2 : Nat} {as : List am_V} {x : Int} (hW : WF c ρ lg ll tn tb rf ik0 ir0 il0 ik1 ir1 il1 dk dr) (hC : CI L xs c ρ lg ll tn tb fa wr st sp rf ik0 ir0 il0 ik1 ir1 il1 dk dr G I P) (hM : MI ρ lg ll tn tb fa wr st sp rf ik0 ir0 il0 ik1 ir1 il1 dk dr I) (k : am_call am_B am_M 100 y1 (.inr (.inr (some 64)) :: as) (G, I, P) = some (some (.inl x), (G1, I1, P1))) (hS1 : ST G1 P1) (hgr : GRw G G1 I I1 P P1) (hcg : CGs (c + 1) G1) (kR : CC I1 65 ρ' ∧ CLg I1 lg' ∧ LWS G1 I1 P1 81 ρ' ll' ∧ TNs G1 P1 65) (kT : CTa I1 tn' tb') (kS : CSc I1 fa' wr' st' sp') (kF : ∀ k, RKk k → I1 173 k = rf' k) (fk : ∀ q k, (q < 64 ∨ q = 83 ∨ (139 ≤ q ∧ q ≤ 160) ∨ (174 ≤ q ∧ q ≤ 206)) → I1 q k = I q k) (f2 : ∀ q k, 208 ≤ q → q ≤ 239 → I1 q k = I q k) (hWR : WR ρ' lg') (hRL : RLs ρ' ll') (hZT : ZT ρ') (hTB : TB tb' tn') (hrf : ∀ k, RKk k → 0 ≤ rf' k ∧ rf' k ≤ ((c + 1 : Nat) : Int)) (m : MI ρ lg ll tn tb fa wr st sp rf ik0 ir0 il0 ik1 ir1 il1 dk dr I1 → ∃ I2, am_call am_B am_M 100 y2 (.inr (.inr (some 208)) :: as) (G1, I1, P1) = some (some (.inl x), (G1, I2, P1)) ∧ (I2 210 = ρ' ∧ MLg I2 ρ' lg' ∧ I2 208 20 = 0) ∧ MTa I2 tn' tb' ∧ MSc I2 fa' wr' st' sp' ∧ (∀ k, RKk k → I2 209 k = rf' k) ∧ (∀ q k, (q = 211 ∨ q = 212 ∨ q = 239 ∨ (223 ≤ q ∧ q ≤ 225) ∨ q = 237 ∨ (q = 208 ∧ (k = 57 ∨ k = 58))) → I2 q k = I1 q k) ∧ (∀ q k, ¬ (208 ≤ q ∧ q ≤ 239) → I2 q k = I1 q k)) : SP L xs c G I P Sum.inl y1 y2 as := by
  have hM1 : MI ρ lg ll tn tb fa wr st sp rf ik0 ir0 il0 ik1 ir1 il1 dk dr I1 := MI_fr hM (fun q k h => f2 q k (by unfold MK2 at h; omega) (by unfold MK2 at h; omega))
  obtain ⟨I2, e2, m1, m2, m3, m4, m5, m6⟩ := m hM1
  obtain ⟨hS, hK, _, _, _, _, ⟨a1, a2, a3⟩, ⟨b1, b2, b3⟩, ⟨hD, hLO⟩, hG, ⟨x1, x2⟩⟩ := hC
  obtain ⟨g1, g2, g3, g4, g5, g6⟩ := hgr
  obtain ⟨_, _, _, _, _, w6, w7, w8⟩ := hW
  obtain ⟨_, n2, _, _, _, ⟨n6, n6b⟩, ⟨n7, n7b⟩, n8⟩ := hM1
  have hCI : CI L xs (c + 1) ρ' lg' ll' tn' tb' fa' wr' st' sp' rf' ik0 ir0 il0 ik1 ir1 il1 dk dr G1 I1 P1 := by
    refine ⟨hS1, KS_fr hK (fun q k hq => fk q k (by omega)), kR, kT, kS, kF, ⟨(fk _ _ (by omega)).trans a1, TNs_gr a2 g2 g1 (fun j _ => g5 j), fun e => ?_⟩, ⟨(fk _ _ (by omega)).trans b1, TNs_gr b2 g2 g1 (fun j _ => g6 j), fun e => ?_⟩, ⟨CC_fr hD (fun q k h1 h2 _ => fk q k (by omega)), LOs_fr hLO (fk _ _ (by omega)) (fk _ _ (by omega))⟩, hcg, ⟨(g1 0 (by omega)).trans x1, fun j hj => (fk _ _ (by omega)).trans (x2 j hj)⟩⟩
    · rcases w6 with w | w
      · exact absurd (w.symm.trans e) (by decide)
      · exact ⟨CC_fr (a3 e).1 (fun q k h1 h2 _ => fk q k (by omega)), LWS_gr (a3 e).2 w.2.1 g2 g1 g3 g4 (fun j _ => g5 j)⟩
    · rcases w7 with w | w
      · exact absurd (w.symm.trans e) (by decide)
      · exact ⟨CC_fr (b3 e).1 (fun q k h1 h2 _ => fk q k (by omega)), LWS_gr (b3 e).2 w.2.1 g2 g1 g3 g4 (fun j _ => g6 j)⟩
  have hMI : MI ρ' lg' ll' tn' tb' fa' wr' st' sp' rf' ik0 ir0 il0 ik1 ir1 il1 dk dr I2 := by
    refine ⟨m1, KM_fr n2 (fun q k hq => m5 q k (by omega)), m2, m3, m4, ⟨(m5 _ _ (by omega)).trans n6, fun e j hj => (m5 _ _ (by omega)).trans (n6b e j hj)⟩, ⟨(m5 _ _ (by omega)).trans n7, fun e j hj => (m5 _ _ (by omega)).trans (n7b e j hj)⟩, ?_⟩
    rcases n8 with ⟨e, d1, d2⟩ | ⟨e, d1, d2, d3⟩
    · exact Or.inl ⟨e, (m5 _ _ (by omega)).trans d1, (m5 _ _ (by omega)).trans d2⟩
    · exact Or.inr ⟨e, (m5 _ _ (by omega)).trans d1, (m5 _ _ (by omega)).trans d2, fun j hj => (m5 _ _ (by omega)).trans (d3 j hj)⟩
  exact SP_do ⟨hWR, hRL, hZT, hTB, hrf, w6, w7, w8⟩ k hCI e2 hMI m6
/-- a call that changes the row, the log, the status -/
theorem SP_row {L : Nat} {xs : Nat → Int32} {c : Nat} {ρ : Nat → Int} {lg : List De} {ll : Lw} {tn : Nat} {tb : Nat → Int} {fa : Int} {wr : Int} {st : Int} {sp : Int} {rf : Nat → Int} {ik0 : Int} {ir0 : Nat → Int} {il0 : Lw} {ik1 : Int} {ir1 : Nat → Int} {il1 : Lw} {dk : Int} {dr : Nat → Int} {ρ' : Nat → Int} {lg' : List De} {st' : Int} {G : am_G} {I I1 : Nat → Nat → Int} {P P1 : Nat → Nat → Option Nat} {y1 y2 : Nat} {as : List am_V} {x : Int} (hW : WF c ρ lg ll tn tb rf ik0 ir0 il0 ik1 ir1 il1 dk dr) (hC : CI L xs c ρ lg ll tn tb fa wr st sp rf ik0 ir0 il0 ik1 ir1 il1 dk dr G I P) (hM : MI ρ lg ll tn tb fa wr st sp rf ik0 ir0 il0 ik1 ir1 il1 dk dr I) (k : am_call am_B am_M 100 y1 (.inr (.inr (some 64)) :: as) (G, I, P) = some (some (.inl x), (G, I1, P1))) (hS1 : ST G P1) (fp : ∀ q k, PK q → P1 q k = P q k) (kC : CC I1 65 ρ') (kL : CLg I1 lg') (kS : I1 64 16 = st') (fk : ∀ q k, CK q k → ¬ (65 ≤ q ∧ q ≤ 80) → ¬ (84 ≤ q ∧ q ≤ 87) → ¬ (q = 64 ∧ k = 16) → I1 q k = I q k) (f2 : ∀ q k, 208 ≤ q → q ≤ 239 → I1 q k = I q k) (hWR : WR ρ' lg') (e3 : ρ' 3 = ρ 3) (e100 : ∀ j, 100 ≤ j → ρ' j = ρ j) (m : MI ρ lg ll tn tb fa wr st sp rf ik0 ir0 il0 ik1 ir1 il1 dk dr I1 → ∃ I2, am_call am_B am_M 100 y2 (.inr (.inr (some 208)) :: as) (G, I1, P1) = some (some (.inl x), (G, I2, P1)) ∧ I2 210 = ρ' ∧ MLg I2 ρ' lg' ∧ I2 208 1 = st' ∧ (∀ q k, MK2 q k → ¬ q = 210 → ¬ q = 213 → ¬ q = 214 → ¬ (q = 208 ∧ (k = 1 ∨ k = 8)) → I2 q k = I1 q k) ∧ (∀ q k, ¬ (208 ≤ q ∧ q ≤ 239) → I2 q k = I1 q k)) : SP L xs c G I P Sum.inl y1 y2 as := by
  obtain ⟨w1, w2, w3, w4, w5, w6, w7, w8⟩ := id hW
  obtain ⟨hS, hK, ⟨_, _, c3, c4⟩, ⟨t1, t2⟩, ⟨s1, s2, s3, s4⟩, hRf, hI0, hI1, hD, hG, hX⟩ := id hC
  have hRW := (WR_0 w1).1
  refine SP_gen (ρ' := ρ') (lg' := lg') (ll' := ll) (tn' := tn) (tb' := tb) (fa' := fa) (wr' := wr) (st' := st') (sp' := sp) (rf' := rf) hW hC hM k hS1 ⟨fun _ _ => rfl, Nat.le_refl _, fun q k a b => fk q k (by unfold CK; omega) (by omega) (by omega) (by omega), fun q k a b => fp q k (by unfold PK; omega), fun k => fp _ _ (by unfold PK; omega), fun k => fp _ _ (by unfold PK; omega)⟩ (CGs_s hG) ⟨kC, kL, LWS_eq c3 hRW e3 (fun q k a => fk q k (by unfold CK; omega) (by omega) (by omega) (by omega)) (fun q k a => fp q k (by unfold PK; omega)) (fun j _ => fp _ _ (by unfold PK; omega)), TNs_eq (c := 65) c4 (fun j _ => fp _ _ (by unfold PK; omega))⟩ ⟨(fk _ _ (by unfold CK; omega) (by omega) (by omega) (by omega)).trans t1, fun k hk => (fk _ _ (by unfold CK; omega) (by omega) (by omega) (by omega)).trans (t2 k hk)⟩ ⟨(fk _ _ (by unfold CK; omega) (by omega) (by omega) (by omega)).trans s1, (fk _ _ (by unfold CK; omega) (by omega) (by omega) (by omega)).trans s2, kS, (fk _ _ (by unfold CK; omega) (by omega) (by omega) (by omega)).trans s4⟩ (fun k hk => (fk _ _ (by unfold CK; omega) (by omega) (by omega) (by omega)).trans (hRf k hk)) (fun q k h => fk q k (by unfold CK; omega) (by omega) (by omega) (by omega)) f2 hWR (RLs_eq w2 e3 e100) (fun j hj => (e100 j (by omega)).trans (w3 j hj)) w4 (fun k hk => by have := w5 k hk; omega) (fun hM1 => ?_)
  obtain ⟨I2, e, m1, m2, m3, m4, m5⟩ := m hM1
  obtain ⟨⟨n1, n1b, n1c⟩, n2, ⟨n3, n3b⟩, ⟨u1, u2, u3, u4⟩, n5, _⟩ := hM1
  exact ⟨I2, e, ⟨m1, m2, (m4 _ _ (by unfold MK2; omega) (by omega) (by omega) (by omega) (by omega)).trans n1c⟩, ⟨(m4 _ _ (by unfold MK2; omega) (by omega) (by omega) (by omega) (by omega)).trans n3, fun k hk => (m4 _ _ (by unfold MK2; omega) (by omega) (by omega) (by omega) (by omega)).trans (n3b k hk)⟩, ⟨(m4 _ _ (by unfold MK2; omega) (by omega) (by omega) (by omega) (by omega)).trans u1, (m4 _ _ (by unfold MK2; omega) (by omega) (by omega) (by omega) (by omega)).trans u2, m3, (m4 _ _ (by unfold MK2; omega) (by omega) (by omega) (by omega) (by omega)).trans u4⟩, fun k hk => (m4 _ _ (by unfold MK2; omega) (by omega) (by omega) (by omega) (by omega)).trans (n5 k hk), fun q k h => m4 q k (by unfold MK2; omega) (by omega) (by omega) (by omega) (by omega), m5⟩
