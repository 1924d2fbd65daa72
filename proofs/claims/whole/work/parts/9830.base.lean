/-! ===== the base: what both constructors leave ===== -/
def b_fI (l : List (Nat × Nat × Int)) (q k : Nat) : Int := l.foldl (fun acc w => if w.1 = q ∧ w.2.1 = k then w.2.2 else acc) 0
def b_fP (l : List (Nat × Nat × Nat)) (q k : Nat) : Option Nat := l.foldl (fun acc w => if w.1 = q ∧ w.2.1 = k then some w.2.2 else acc) none
def b_IW : List (Nat × Nat × Int) := [(80, 0, 0), (80, 1, 1), (80, 2, 0), (65, 17, -1), (108, 0, 0), (108, 1, 1), (108, 2, 0), (93, 17, -1), (92, 7, -1), (137, 0, 0), (137, 1, 1), (137, 2, 0), (122, 17, -1), (154, 0, 0), (154, 1, 1), (154, 2, 0), (139, 17, -1), (64, 14, -1), (189, 0, 0), (189, 1, 1), (189, 2, 0), (174, 17, -1), (206, 0, 0), (206, 1, 1), (206, 2, 0), (191, 17, -1), (208, 18, -1), (223, 0, 3554980), (223, 1, 370116), (223, 2, 591077), (223, 3, 2552), (223, 4, 212363), (223, 5, 12009203), (223, 6, 23732), (223, 7, 14982420), (223, 8, 441828), (224, 0, 14982420), (224, 1, 146885), (224, 2, 404362868), (224, 3, 407947732), (224, 4, 653307044), (224, 5, 52), (224, 6, 87673), (225, 0, 21148051), (225, 1, 20415859), (225, 2, 244915), (225, 3, 67155), (237, 0, 599495), (237, 1, 182682853), (237, 2, 20350568), (237, 3, 525939), (208, 53, -1), (208, 57, -1), (208, 58, -1), (210, 4, -1), (210, 6, 1)]
def b_PW : List (Nat × Nat × Nat) := [(66, 0, 67), (66, 1, 68), (66, 2, 69), (65, 0, 66), (65, 1, 70), (65, 2, 71), (65, 3, 72), (65, 5, 73), (65, 6, 74), (65, 7, 75), (65, 8, 76), (65, 9, 77), (65, 11, 78), (65, 12, 79), (65, 14, 80), (65, 15, 81), (64, 0, 65), (64, 1, 82), (64, 2, 83), (84, 0, 85), (84, 1, 86), (84, 2, 87), (64, 3, 84), (88, 0, 89), (88, 1, 90), (64, 4, 88), (91, 0, 65), (91, 1, 84), (91, 2, 88), (64, 5, 91), (94, 0, 95), (94, 1, 96), (94, 2, 97), (93, 0, 94), (93, 1, 98), (93, 2, 99), (93, 3, 100), (93, 5, 101), (93, 6, 102), (93, 7, 103), (93, 8, 104), (93, 9, 105), (93, 11, 106), (93, 12, 107), (93, 14, 108), (93, 15, 109), (92, 1, 93), (110, 0, 111), (110, 1, 112), (110, 2, 113), (92, 2, 110), (92, 3, 114), (92, 4, 115), (92, 0, 91), (64, 6, 92), (116, 1, 117), (116, 2, 118), (116, 3, 119), (116, 4, 120), (116, 0, 88), (64, 7, 116), (123, 0, 124), (123, 1, 125), (123, 2, 126), (122, 0, 123), (122, 1, 127), (122, 2, 128), (122, 3, 129), (122, 5, 130), (122, 6, 131), (122, 7, 132), (122, 8, 133), (122, 9, 134), (122, 11, 135), (122, 12, 136), (122, 14, 137), (122, 15, 138), (121, 1, 122), (140, 0, 141), (140, 1, 142), (140, 2, 143), (139, 0, 140), (139, 1, 144), (139, 2, 145), (139, 3, 146), (139, 5, 147), (139, 6, 148), (139, 7, 149), (139, 8, 150), (139, 9, 151), (139, 11, 152), (139, 12, 153), (139, 14, 154), (139, 15, 155), (121, 2, 139), (121, 0, 88), (157, 0, 158), (157, 1, 159), (157, 2, 160), (156, 0, 139), (156, 1, 157), (156, 2, 88), (121, 3, 156), (64, 8, 121), (162, 0, 163), (162, 1, 164), (162, 2, 165), (162, 3, 166), (162, 4, 167), (162, 6, 168), (161, 0, 162), (169, 0, 170), (161, 1, 169), (64, 9, 161), (64, 10, 171), (64, 11, 172), (64, 12, 173), (175, 0, 176), (175, 1, 177), (175, 2, 178), (174, 0, 175), (174, 1, 179), (174, 2, 180), (174, 3, 181), (174, 5, 182), (174, 6, 183), (174, 7, 184), (174, 8, 185), (174, 9, 186), (174, 11, 187), (174, 12, 188), (174, 14, 189), (174, 15, 190), (82, 0, 174), (192, 0, 193), (192, 1, 194), (192, 2, 195), (191, 0, 192), (191, 1, 196), (191, 2, 197), (191, 3, 198), (191, 5, 199), (191, 6, 200), (191, 7, 201), (191, 8, 202), (191, 9, 203), (191, 11, 204), (191, 12, 205), (191, 14, 206), (191, 15, 207), (82, 1, 191), (208, 2, 209), (208, 3, 210), (208, 4, 211), (208, 5, 212), (208, 6, 213), (208, 7, 214), (208, 9, 215), (208, 10, 216), (208, 12, 217), (208, 22, 218), (208, 24, 219), (208, 25, 220), (208, 27, 221), (208, 28, 222), (208, 31, 223), (208, 32, 224), (208, 33, 225), (208, 35, 226), (208, 36, 227), (208, 37, 228), (208, 41, 229), (208, 42, 230), (208, 43, 231), (208, 44, 232), (208, 45, 233), (208, 46, 234), (208, 47, 235), (208, 48, 236), (208, 49, 237), (208, 50, 238), (208, 56, 239)]
/-- n cells are made, p pointers and i numbers written, sl slots taken -/
def AS (L : Nat) (xs : Nat → Int32) (n p i sl : Nat) (G : am_G) (I : Nat → Nat → Int) (P : Nat → Nat → Option Nat) : Prop := G.1 = n ∧ G.2.1 = sl ∧ (∀ q, q < 64 → G.2.2 q = (am_x0 L xs).1.2.2 q) ∧ (∀ j s, j < n → st_sh[j]? = some s → G.2.2 (64 + j) = s) ∧ (∀ q k, q < 64 → I q k = (am_x0 L xs).2.1 q k) ∧ (∀ q k, 64 ≤ q → q < 64 + n → I q k = b_fI (b_IW.take i) q k) ∧ (∀ q k, 64 ≤ q → q < 64 + n → P q k = b_fP (b_PW.take p) q k) ∧ (∀ w ∈ b_IW.take i, w.1 < 64 + n) ∧ (∀ w ∈ b_PW.take p, w.1 < 64 + n)
theorem b_0 (L : Nat) (xs : Nat → Int32) : AS L xs 0 0 0 0 (am_x0 L xs).1 (am_x0 L xs).2.1 (am_x0 L xs).2.2 := ⟨rfl, rfl, fun _ _ => rfl, fun j s h => absurd h (by omega), fun _ _ _ => rfl, fun q k a b => absurd b (by omega), fun q k a b => absurd b (by omega), fun w h => by simp at h, fun w h => by simp at h⟩
theorem fI_out : ∀ (l : List (Nat × Nat × Int)) (a : Int) (q k : Nat), (∀ w ∈ l, ¬ w.1 = q) → l.foldl (fun acc w => if w.1 = q ∧ w.2.1 = k then w.2.2 else acc) a = a
  | [], a, q, k, h => rfl
  | x :: l, a, q, k, h => by
    rw [List.foldl_cons, if_neg (fun z => h x List.mem_cons_self z.1)]
    exact fI_out l a q k (fun w hw => h w (List.mem_cons_of_mem _ hw))
theorem fP_out : ∀ (l : List (Nat × Nat × Nat)) (a : Option Nat) (q k : Nat), (∀ w ∈ l, ¬ w.1 = q) → l.foldl (fun acc w => if w.1 = q ∧ w.2.1 = k then some w.2.2 else acc) a = a
  | [], a, q, k, h => rfl
  | x :: l, a, q, k, h => by
    rw [List.foldl_cons, if_neg (fun z => h x List.mem_cons_self z.1)]
    exact fP_out l a q k (fun w hw => h w (List.mem_cons_of_mem _ hw))
theorem b_new {L : Nat} {xs : Nat → Int32} {n p i sl f : Nat} {s : (Nat × Nat) ⊕ Nat} {G : am_G} {I : Nat → Nat → Int} {P : Nat → Nat → Option Nat} (h : AS L xs n p i sl G I P) (hs : st_sh[n]? = some s) : AS L xs (n + 1) p i (sl + f) (G.1 + 1, G.2.1 + f, am_u1 G.2.2 (64 + G.1) s) (am_u1 I (64 + G.1) (fun _ => 0)) (am_u1 P (64 + G.1) (fun _ => none)) := by
  obtain ⟨h1, h2, h3, h4, h5, h6, h7, h8, h9⟩ := h
  subst h1
  refine ⟨rfl, by show G.2.1 + f = sl + f; omega, fun q hq => ?_, fun j s' hj e => ?_, fun q k hq => ?_, fun q k a b => ?_, fun q k a b => ?_, fun w hw => by have := h8 w hw; omega, fun w hw => by have := h9 w hw; omega⟩
  · show am_u1 G.2.2 (64 + G.1) s q = _
    rw [u1_at (by omega)]; exact h3 q hq
  · show am_u1 G.2.2 (64 + G.1) s (64 + j) = s'
    by_cases z : j = G.1
    · subst z; rw [u1_e]; rw [hs] at e; exact Option.some.inj e
    · rw [u1_at (by omega)]; exact h4 j s' (by omega) e
  · rw [u1_qk (by omega)]; exact h5 q k hq
  · by_cases z : q = 64 + G.1
    · subst z; rw [u1_e]; exact (fI_out _ 0 _ k (fun w hw => by have := h8 w hw; omega)).symm
    · rw [u1_qk z]; exact h6 q k a (by omega)
  · by_cases z : q = 64 + G.1
    · subst z; rw [u1_e]; exact (fP_out _ none _ k (fun w hw => by have := h9 w hw; omega)).symm
    · rw [u1_at z]; exact h7 q k a (by omega)
theorem b_puti {L : Nat} {xs : Nat → Int32} {n p i sl q k : Nat} {v : Int} {G : am_G} {I : Nat → Nat → Int} {P : Nat → Nat → Option Nat} (h : AS L xs n p i sl G I P) (hw : b_IW[i]? = some (q, k, v)) (ha : 64 ≤ q) (hb : q < 64 + n) : AS L xs n p (i + 1) sl G (am_u2 I q k v) P := by
  obtain ⟨h1, h2, h3, h4, h5, h6, h7, h8, h9⟩ := h
  have et : b_IW.take (i + 1) = b_IW.take i ++ [(q, k, v)] := by rw [List.take_add_one, hw]; rfl
  refine ⟨h1, h2, h3, h4, fun q' k' hq => ?_, fun q' k' a b => ?_, h7, fun w hw' => ?_, h9⟩
  · rw [u2_q (by omega)]; exact h5 q' k' hq
  · unfold b_fI
    rw [et, List.foldl_append, List.foldl_cons, List.foldl_nil]
    show am_u2 I q k v q' k' = if q = q' ∧ k = k' then v else _
    by_cases z : q' = q ∧ k' = k
    · obtain ⟨z1, z2⟩ := z; subst z1; subst z2; rw [u2_e, if_pos ⟨rfl, rfl⟩]
    · rw [u2_o z, if_neg (fun y => z ⟨y.1.symm, y.2.symm⟩)]; exact h6 q' k' a b
  · rw [et] at hw'
    rcases List.mem_append.mp hw' with y | y
    · exact h8 w y
    · rw [List.mem_singleton.mp y]; exact hb
theorem b_putp {L : Nat} {xs : Nat → Int32} {n p i sl q k r : Nat} {G : am_G} {I : Nat → Nat → Int} {P : Nat → Nat → Option Nat} (h : AS L xs n p i sl G I P) (hw : b_PW[p]? = some (q, k, r)) (ha : 64 ≤ q) (hb : q < 64 + n) : AS L xs n (p + 1) i sl G I (am_u2 P q k (some r)) := by
  obtain ⟨h1, h2, h3, h4, h5, h6, h7, h8, h9⟩ := h
  have et : b_PW.take (p + 1) = b_PW.take p ++ [(q, k, r)] := by rw [List.take_add_one, hw]; rfl
  refine ⟨h1, h2, h3, h4, h5, h6, fun q' k' a b => ?_, h8, fun w hw' => ?_⟩
  · unfold b_fP
    rw [et, List.foldl_append, List.foldl_cons, List.foldl_nil]
    show am_u2 P q k (some r) q' k' = if q = q' ∧ k = k' then some r else _
    by_cases z : q' = q ∧ k' = k
    · obtain ⟨z1, z2⟩ := z; subst z1; subst z2; rw [u2_e, if_pos ⟨rfl, rfl⟩]
    · rw [u2_o z, if_neg (fun y => z ⟨y.1.symm, y.2.symm⟩)]; exact h7 q' k' a b
  · rw [et] at hw'
    rcases List.mem_append.mp hw' with y | y
    · exact h9 w y
    · rw [List.mem_singleton.mp y]; exact hb
theorem b_sh {L : Nat} {xs : Nat → Int32} {n p i sl j q : Nat} {s : (Nat × Nat) ⊕ Nat} {G : am_G} {I : Nat → Nat → Int} {P : Nat → Nat → Option Nat} (h : AS L xs n p i sl G I P) (hs : st_sh[j]? = some s) (hj : j < n) (hq : 64 + j = q) : G.2.2 q = s := by subst hq; exact h.2.2.2.1 j s hj hs
theorem b_pt {L : Nat} {xs : Nat → Int32} {n p i sl q k : Nat} {r : Option Nat} {G : am_G} {I : Nat → Nat → Int} {P : Nat → Nat → Option Nat} (h : AS L xs n p i sl G I P) (ha : 64 ≤ q) (hb : q < 64 + n) (hv : b_fP (b_PW.take p) q k = r) : P q k = r := (h.2.2.2.2.2.2.1 q k ha hb).trans hv
section BX
variable {K : Nat → List am_V → am_H → Option am_O} {B : Nat → List am_I} {is : List am_I} {Lo : am_L} {S : List am_V} {Q : am_O → Prop} {pc kk : Nat} {c : Int} {ns : List Nat} {L : Nat} {xs : Nat → Int32} {n p i sl n2 p2 i2 sl2 f q k r ci t idx : Nat} {x v : Int} {G : am_G} {I : Nat → Nat → Int} {P : Nat → Nat → Option Nat}
theorem b_44 (h : AS L xs n p i sl G I P) (hs : st_sh[n]? = some (.inr ci)) (hf : am_nf ci = f) (hq : 64 + n = q) (hn : n + 1 = n2) (hl : sl + f = sl2) (hk : ∀ G' I' P', AS L xs n2 p i sl2 G' I' P' → am_ex K B is Lo (.inr (.inr (some q)) :: S) (G', I', P') Q) : am_ex K B ((44, pc, c, [ci, kk]) :: is) Lo S (G, I, P) Q := by
  subst hn; subst hl; subst hf
  refine ex_44 ?_
  have e : 64 + G.1 = q := by rw [h.1]; exact hq
  show am_ex K B is Lo (.inr (.inr (some (64 + G.1))) :: S) _ Q
  rw [e]
  exact hk _ _ _ (b_new h hs)
theorem b_39 (h : AS L xs n p i sl G I P) (h0 : 0 ≤ x ∧ x ≤ 100000) (hx : x.toNat = f) (hs : st_sh[n]? = some (.inl (t, f))) (hq : 64 + n = q) (hn : n + 1 = n2) (hl : sl + f = sl2) (hk : ∀ G' I' P', AS L xs n2 p i sl2 G' I' P' → am_ex K B is Lo (.inr (.inr (some q)) :: S) (G', I', P') Q) : am_ex K B ((39, pc, c, [t, kk]) :: is) Lo (.inl x :: S) (G, I, P) Q := by
  subst hn; subst hl; subst hx
  refine ex_39 h0 ?_
  have e : 64 + G.1 = q := by rw [h.1]; exact hq
  show am_ex K B is Lo (.inr (.inr (some (64 + G.1))) :: S) _ Q
  rw [e]
  exact hk _ _ _ (b_new h hs)
theorem b_42r (h : AS L xs n p i sl G I P) (hg : G.2.2 q = .inr ci) (hw : b_PW[p]? = some (q, k, r)) (ha : 64 ≤ q) (hb : q < 64 + n) (hp : p + 1 = p2) (hk : ∀ P', AS L xs n p2 i sl G I P' → am_ex K B is Lo S (G, I, P') Q) : am_ex K B ((42, pc, c, [ci, k, 2, idx]) :: is) Lo (.inr (.inr (some r)) :: .inr (.inr (some q)) :: S) (G, I, P) Q := by
  subst hp
  exact ix_42r hg (hk _ (b_putp h hw ha hb))
theorem b_42i (h : AS L xs n p i sl G I P) (hg : G.2.2 q = .inr ci) (hw : b_IW[i]? = some (q, k, v)) (ha : 64 ≤ q) (hb : q < 64 + n) (hp : i + 1 = i2) (hk : ∀ I', AS L xs n p i2 sl G I' P → am_ex K B is Lo S (G, I', P) Q) : am_ex K B ((42, pc, c, [ci, k, 0, idx]) :: is) Lo (.inl v :: .inr (.inr (some q)) :: S) (G, I, P) Q := by
  subst hp
  exact ix_42i hg (hk _ (b_puti h hw ha hb))
theorem b_34 (h : AS L xs n p i sl G I P) (hg : G.2.2 q = .inl (0, f)) (h0 : 0 ≤ x) (h1 : x < (f : Int)) (hj : x.toNat = k) (hw : b_IW[i]? = some (q, k, v)) (ha : 64 ≤ q) (hb : q < 64 + n) (hp : i + 1 = i2) (hk : ∀ I', AS L xs n p i2 sl G I' P → am_ex K B is Lo S (G, I', P) Q) : am_ex K B ((34, pc, c, ns) :: is) Lo (.inl v :: .inl x :: .inr (.inr (some q)) :: S) (G, I, P) Q := by
  subst hp
  exact ix_34 hg h0 h1 hj (hk _ (b_puti h hw ha hb))
theorem b_36 (h : AS L xs n p i sl G I P) (hg : G.2.2 q = .inl (3, f)) (h0 : 0 ≤ x) (h1 : x < (f : Int)) (hj : x.toNat = k) (hw : b_IW[i]? = some (q, k, v)) (ha : 64 ≤ q) (hb : q < 64 + n) (hp : i + 1 = i2) (hk : ∀ I', AS L xs n p i2 sl G I' P → am_ex K B is Lo S (G, I', P) Q) : am_ex K B ((36, pc, c, ns) :: is) Lo (.inr (.inl v) :: .inl x :: .inr (.inr (some q)) :: S) (G, I, P) Q := by
  subst hp
  exact ix_36 hg h0 h1 hj (hk _ (b_puti h hw ha hb))
theorem b_37 (h : AS L xs n p i sl G I P) (hg : G.2.2 q = .inl (t, f)) (h0 : 0 ≤ x) (h1 : x < (f : Int)) (hj : x.toNat = k) (ho : G.2.2 r = .inr ci) (hw : b_PW[p]? = some (q, k, r)) (ha : 64 ≤ q) (hb : q < 64 + n) (hp : p + 1 = p2) (hk : ∀ P', AS L xs n p2 i sl G I P' → am_ex K B is Lo S (G, I, P') Q) : am_ex K B ((37, pc, c, [t, ci]) :: is) Lo (.inr (.inr (some r)) :: .inl x :: .inr (.inr (some q)) :: S) (G, I, P) Q := by
  subst hp
  exact ix_37 hg h0 h1 hj (by show am_ob ci r (G, I, P) = true; exact am_ob_of (h := (G, I, P)) ho) (hk _ (b_putp h hw ha hb))
end BX
theorem b_c3 {d L : Nat} {xs : Nat → Int32} {G : am_G} {I : Nat → Nat → Int} {P : Nat → Nat → Option Nat} (h : AS L xs 3 0 0 39 G I P) : ∃ G1 I1 P1, am_call am_B am_M (d + 1) 74 [(.inr (.inr (some 66)))] (G, I, P) = some (none, (G1, I1, P1)) ∧ AS L xs 6 3 0 87 G1 I1 P1 ∧ G.2.2 66 = .inr 8 := by
  have hs0 : G.2.2 66 = .inr 8 := b_sh (j := 2) h rfl (by decide) rfl
  have w : am_ex (am_call am_B am_M (d + 0)) (am_B 74) (am_B 74 0) [some (.inr (.inr (some 66)))] [] (G, I, P) (fun o => ∃ G1 I1 P1, o = (none, (G1, I1, P1)) ∧ AS L xs 6 3 0 87 G1 I1 P1) := by
    clear hs0
    refine (ex_6_0 (ex_47 rfl (ex_6_0 (ex_0 (b_39 h (f := 36) (q := 67) (n2 := 4) (sl2 := 75) ⟨by decide, by decide⟩ rfl rfl rfl rfl rfl (fun G I P h => ?_))))))
    refine (b_42r h (q := 66) (k := 0) (r := 67) (p2 := 1) (b_sh (j := 2) h rfl (by decide) rfl) rfl (by decide) (by decide) rfl (fun P h => ?_))
    refine (ex_6_0 (ex_0 (b_39 h (f := 6) (q := 68) (n2 := 5) (sl2 := 81) ⟨by decide, by decide⟩ rfl rfl rfl rfl rfl (fun G I P h => ?_))))
    refine (b_42r h (q := 66) (k := 1) (r := 68) (p2 := 2) (b_sh (j := 2) h rfl (by decide) rfl) rfl (by decide) (by decide) rfl (fun P h => ?_))
    refine (ex_6_0 (ex_0 (b_39 h (f := 6) (q := 69) (n2 := 6) (sl2 := 87) ⟨by decide, by decide⟩ rfl rfl rfl rfl rfl (fun G I P h => ?_))))
    refine (b_42r h (q := 66) (k := 2) (r := 69) (p2 := 3) (b_sh (j := 2) h rfl (by decide) rfl) rfl (by decide) (by decide) rfl (fun P h => ?_))
    exact ex_56 ⟨_, _, _, rfl, h⟩
  obtain ⟨o, e, G1, I1, P1, rfl, h1⟩ := am_doQ (as := [(.inr (.inr (some 66)))]) (Nat.le_of_ble_eq_true rfl) rfl w
  exact ⟨G1, I1, P1, e, h1, hs0⟩
theorem b_c2 {d L : Nat} {xs : Nat → Int32} {G : am_G} {I : Nat → Nat → Int} {P : Nat → Nat → Option Nat} (h : AS L xs 2 0 0 35 G I P) : ∃ G1 I1 P1, am_call am_B am_M (d + 2) 10 [(.inr (.inr (some 65)))] (G, I, P) = some (none, (G1, I1, P1)) ∧ AS L xs 18 16 4 151 G1 I1 P1 ∧ G.2.2 65 = .inr 1 := by
  have hs0 : G.2.2 65 = .inr 1 := b_sh (j := 1) h rfl (by decide) rfl
  have w : am_ex (am_call am_B am_M (d + 1)) (am_B 10) (am_B 10 0) [some (.inr (.inr (some 65)))] [] (G, I, P) (fun o => ∃ G1 I1 P1, o = (none, (G1, I1, P1)) ∧ AS L xs 18 16 4 151 G1 I1 P1) := by
    clear hs0
    refine (ex_6_0 (ex_47 rfl (ex_6_0 (b_44 h (ci := 8) (f := 4) (q := 66) (n2 := 3) (sl2 := 39) rfl rfl rfl rfl rfl (fun G I P h => ?_)))))
    refine (ex_22 rfl ?_)
    obtain ⟨G, I, P, e_, h_, hs_⟩ := b_c3 (d := d) h
    refine (ix_46 (S' := [(.inr (.inr (some 66))), (.inr (.inr (some 65)))]) rfl hs_ e_ rfl rfl ?_)
    clear hs_ e_
    skip
    have h := h_
    refine (b_42r h (q := 65) (k := 0) (r := 66) (p2 := 4) (b_sh (j := 1) h rfl (by decide) rfl) rfl (by decide) (by decide) rfl (fun P h => ?_))
    refine (ex_6_0 (ex_0 (b_39 h (f := 6) (q := 70) (n2 := 7) (sl2 := 93) ⟨by decide, by decide⟩ rfl rfl rfl rfl rfl (fun G I P h => ?_))))
    refine (b_42r h (q := 65) (k := 1) (r := 70) (p2 := 5) (b_sh (j := 1) h rfl (by decide) rfl) rfl (by decide) (by decide) rfl (fun P h => ?_))
    refine (ex_6_0 (ex_0 (b_39 h (f := 6) (q := 71) (n2 := 8) (sl2 := 99) ⟨by decide, by decide⟩ rfl rfl rfl rfl rfl (fun G I P h => ?_))))
    refine (b_42r h (q := 65) (k := 2) (r := 71) (p2 := 6) (b_sh (j := 1) h rfl (by decide) rfl) rfl (by decide) (by decide) rfl (fun P h => ?_))
    refine (ex_6_0 (ex_0 (b_39 h (f := 6) (q := 72) (n2 := 9) (sl2 := 105) ⟨by decide, by decide⟩ rfl rfl rfl rfl rfl (fun G I P h => ?_))))
    refine (b_42r h (q := 65) (k := 3) (r := 72) (p2 := 7) (b_sh (j := 1) h rfl (by decide) rfl) rfl (by decide) (by decide) rfl (fun P h => ?_))
    refine (ex_6_0 (ex_0 (b_39 h (f := 5) (q := 73) (n2 := 10) (sl2 := 110) ⟨by decide, by decide⟩ rfl rfl rfl rfl rfl (fun G I P h => ?_))))
    refine (b_42r h (q := 65) (k := 5) (r := 73) (p2 := 8) (b_sh (j := 1) h rfl (by decide) rfl) rfl (by decide) (by decide) rfl (fun P h => ?_))
    refine (ex_6_0 (ex_0 (b_39 h (f := 5) (q := 74) (n2 := 11) (sl2 := 115) ⟨by decide, by decide⟩ rfl rfl rfl rfl rfl (fun G I P h => ?_))))
    refine (b_42r h (q := 65) (k := 6) (r := 74) (p2 := 9) (b_sh (j := 1) h rfl (by decide) rfl) rfl (by decide) (by decide) rfl (fun P h => ?_))
    refine (ex_6_0 (ex_0 (b_39 h (f := 5) (q := 75) (n2 := 12) (sl2 := 120) ⟨by decide, by decide⟩ rfl rfl rfl rfl rfl (fun G I P h => ?_))))
    refine (b_42r h (q := 65) (k := 7) (r := 75) (p2 := 10) (b_sh (j := 1) h rfl (by decide) rfl) rfl (by decide) (by decide) rfl (fun P h => ?_))
    refine (ex_6_0 (ex_0 (b_39 h (f := 5) (q := 76) (n2 := 13) (sl2 := 125) ⟨by decide, by decide⟩ rfl rfl rfl rfl rfl (fun G I P h => ?_))))
    refine (b_42r h (q := 65) (k := 8) (r := 76) (p2 := 11) (b_sh (j := 1) h rfl (by decide) rfl) rfl (by decide) (by decide) rfl (fun P h => ?_))
    refine (ex_6_0 (ex_0 (b_39 h (f := 5) (q := 77) (n2 := 14) (sl2 := 130) ⟨by decide, by decide⟩ rfl rfl rfl rfl rfl (fun G I P h => ?_))))
    refine (b_42r h (q := 65) (k := 9) (r := 77) (p2 := 12) (b_sh (j := 1) h rfl (by decide) rfl) rfl (by decide) (by decide) rfl (fun P h => ?_))
    refine (ex_6_0 (ex_0 (b_39 h (f := 6) (q := 78) (n2 := 15) (sl2 := 136) ⟨by decide, by decide⟩ rfl rfl rfl rfl rfl (fun G I P h => ?_))))
    refine (b_42r h (q := 65) (k := 11) (r := 78) (p2 := 13) (b_sh (j := 1) h rfl (by decide) rfl) rfl (by decide) (by decide) rfl (fun P h => ?_))
    refine (ex_6_0 (ex_0 (b_39 h (f := 6) (q := 79) (n2 := 16) (sl2 := 142) ⟨by decide, by decide⟩ rfl rfl rfl rfl rfl (fun G I P h => ?_))))
    refine (b_42r h (q := 65) (k := 12) (r := 79) (p2 := 14) (b_sh (j := 1) h rfl (by decide) rfl) rfl (by decide) (by decide) rfl (fun P h => ?_))
    refine (ex_6_0 (ex_0 (b_39 h (f := 3) (q := 80) (n2 := 17) (sl2 := 145) ⟨by decide, by decide⟩ rfl rfl rfl rfl rfl (fun G I P h => ?_))))
    refine (ex_22 rfl (ex_0 (ex_0 (b_34 h (q := 80) (k := 0) (v := 0) (i2 := 1) (b_sh (j := 16) h rfl (by decide) rfl) (by decide) (by decide) rfl rfl (by decide) (by decide) rfl (fun I h => ?_)))))
    refine (ex_22 rfl (ex_0 (ex_0 (b_34 h (q := 80) (k := 1) (v := 1) (i2 := 2) (b_sh (j := 16) h rfl (by decide) rfl) (by decide) (by decide) rfl rfl (by decide) (by decide) rfl (fun I h => ?_)))))
    refine (ex_22 rfl (ex_0 (ex_0 (b_34 h (q := 80) (k := 2) (v := 0) (i2 := 3) (b_sh (j := 16) h rfl (by decide) rfl) (by decide) (by decide) rfl rfl (by decide) (by decide) rfl (fun I h => ?_)))))
    refine (b_42r h (q := 65) (k := 14) (r := 80) (p2 := 15) (b_sh (j := 1) h rfl (by decide) rfl) rfl (by decide) (by decide) rfl (fun P h => ?_))
    refine (ex_6_0 (ex_0 (b_39 h (f := 6) (q := 81) (n2 := 18) (sl2 := 151) ⟨by decide, by decide⟩ rfl rfl rfl rfl rfl (fun G I P h => ?_))))
    refine (b_42r h (q := 65) (k := 15) (r := 81) (p2 := 16) (b_sh (j := 1) h rfl (by decide) rfl) rfl (by decide) (by decide) rfl (fun P h => ?_))
    refine (ex_6_0 (ex_0 (b_42i h (q := 65) (k := 17) (v := (-1)) (i2 := 4) (b_sh (j := 1) h rfl (by decide) rfl) rfl (by decide) (by decide) rfl (fun I h => ?_))))
    exact ex_56 ⟨_, _, _, rfl, h⟩
  obtain ⟨o, e, G1, I1, P1, rfl, h1⟩ := am_doQ (as := [(.inr (.inr (some 65)))]) (Nat.le_of_ble_eq_true rfl) rfl w
  exact ⟨G1, I1, P1, e, h1, hs0⟩
theorem b_c4 {d L : Nat} {xs : Nat → Int32} {G : am_G} {I : Nat → Nat → Int} {P : Nat → Nat → Option Nat} (h : AS L xs 21 19 4 160 G I P) : ∃ G1 I1 P1, am_call am_B am_M (d + 1) 40 [(.inr (.inr (some 84)))] (G, I, P) = some (none, (G1, I1, P1)) ∧ AS L xs 24 22 4 208 G1 I1 P1 ∧ G.2.2 84 = .inr 4 := by
  have hs0 : G.2.2 84 = .inr 4 := b_sh (j := 20) h rfl (by decide) rfl
  have w : am_ex (am_call am_B am_M (d + 0)) (am_B 40) (am_B 40 0) [some (.inr (.inr (some 84)))] [] (G, I, P) (fun o => ∃ G1 I1 P1, o = (none, (G1, I1, P1)) ∧ AS L xs 24 22 4 208 G1 I1 P1) := by
    clear hs0
    refine (ex_6_0 (ex_47 rfl (ex_6_0 (ex_0 (b_39 h (f := 16) (q := 85) (n2 := 22) (sl2 := 176) ⟨by decide, by decide⟩ rfl rfl rfl rfl rfl (fun G I P h => ?_))))))
    refine (b_42r h (q := 84) (k := 0) (r := 85) (p2 := 20) (b_sh (j := 20) h rfl (by decide) rfl) rfl (by decide) (by decide) rfl (fun P h => ?_))
    refine (ex_6_0 (ex_0 (b_39 h (f := 16) (q := 86) (n2 := 23) (sl2 := 192) ⟨by decide, by decide⟩ rfl rfl rfl rfl rfl (fun G I P h => ?_))))
    refine (b_42r h (q := 84) (k := 1) (r := 86) (p2 := 21) (b_sh (j := 20) h rfl (by decide) rfl) rfl (by decide) (by decide) rfl (fun P h => ?_))
    refine (ex_6_0 (ex_0 (b_39 h (f := 16) (q := 87) (n2 := 24) (sl2 := 208) ⟨by decide, by decide⟩ rfl rfl rfl rfl rfl (fun G I P h => ?_))))
    refine (b_42r h (q := 84) (k := 2) (r := 87) (p2 := 22) (b_sh (j := 20) h rfl (by decide) rfl) rfl (by decide) (by decide) rfl (fun P h => ?_))
    exact ex_56 ⟨_, _, _, rfl, h⟩
  obtain ⟨o, e, G1, I1, P1, rfl, h1⟩ := am_doQ (as := [(.inr (.inr (some 84)))]) (Nat.le_of_ble_eq_true rfl) rfl w
  exact ⟨G1, I1, P1, e, h1, hs0⟩
theorem b_c5 {d L : Nat} {xs : Nat → Int32} {G : am_G} {I : Nat → Nat → Int} {P : Nat → Nat → Option Nat} (h : AS L xs 25 23 4 210 G I P) : ∃ G1 I1 P1, am_call am_B am_M (d + 1) 29 [(.inr (.inr (some 88)))] (G, I, P) = some (none, (G1, I1, P1)) ∧ AS L xs 27 25 4 251 G1 I1 P1 ∧ G.2.2 88 = .inr 3 := by
  have hs0 : G.2.2 88 = .inr 3 := b_sh (j := 24) h rfl (by decide) rfl
  have w : am_ex (am_call am_B am_M (d + 0)) (am_B 29) (am_B 29 0) [some (.inr (.inr (some 88)))] [] (G, I, P) (fun o => ∃ G1 I1 P1, o = (none, (G1, I1, P1)) ∧ AS L xs 27 25 4 251 G1 I1 P1) := by
    clear hs0
    refine (ex_6_0 (ex_47 rfl (ex_6_0 (ex_0 (b_39 h (f := 9) (q := 89) (n2 := 26) (sl2 := 219) ⟨by decide, by decide⟩ rfl rfl rfl rfl rfl (fun G I P h => ?_))))))
    refine (b_42r h (q := 88) (k := 0) (r := 89) (p2 := 24) (b_sh (j := 24) h rfl (by decide) rfl) rfl (by decide) (by decide) rfl (fun P h => ?_))
    refine (ex_6_0 (ex_0 (b_39 h (f := 32) (q := 90) (n2 := 27) (sl2 := 251) ⟨by decide, by decide⟩ rfl rfl rfl rfl rfl (fun G I P h => ?_))))
    refine (b_42r h (q := 88) (k := 1) (r := 90) (p2 := 25) (b_sh (j := 24) h rfl (by decide) rfl) rfl (by decide) (by decide) rfl (fun P h => ?_))
    exact ex_56 ⟨_, _, _, rfl, h⟩
  obtain ⟨o, e, G1, I1, P1, rfl, h1⟩ := am_doQ (as := [(.inr (.inr (some 88)))]) (Nat.le_of_ble_eq_true rfl) rfl w
  exact ⟨G1, I1, P1, e, h1, hs0⟩
theorem b_c6 {d L : Nat} {xs : Nat → Int32} {G : am_G} {I : Nat → Nat → Int} {P : Nat → Nat → Option Nat} (h : AS L xs 28 26 4 254 G I P) : ∃ G1 I1 P1, am_call am_B am_M (d + 1) 21 [(.inr (.inr (some 91))), (.inr (.inr (some 65))), (.inr (.inr (some 84))), (.inr (.inr (some 88)))] (G, I, P) = some (none, (G1, I1, P1)) ∧ AS L xs 28 29 4 254 G1 I1 P1 ∧ G.2.2 91 = .inr 2 := by
  have hs0 : G.2.2 91 = .inr 2 := b_sh (j := 27) h rfl (by decide) rfl
  have w : am_ex (am_call am_B am_M (d + 0)) (am_B 21) (am_B 21 0) [some (.inr (.inr (some 91))), some (.inr (.inr (some 65))), some (.inr (.inr (some 84))), some (.inr (.inr (some 88)))] [] (G, I, P) (fun o => ∃ G1 I1 P1, o = (none, (G1, I1, P1)) ∧ AS L xs 28 29 4 254 G1 I1 P1) := by
    clear hs0
    refine (ex_6_0 (ex_47 rfl (ex_6_0 (ex_6_1 (b_42r h (q := 91) (k := 0) (r := 65) (p2 := 27) (b_sh (j := 27) h rfl (by decide) rfl) rfl (by decide) (by decide) rfl (fun P h => ?_))))))
    refine (ex_6_0 (ex_6_2 (b_42r h (q := 91) (k := 1) (r := 84) (p2 := 28) (b_sh (j := 27) h rfl (by decide) rfl) rfl (by decide) (by decide) rfl (fun P h => ?_))))
    refine (ex_6_0 (ex_6_3 (b_42r h (q := 91) (k := 2) (r := 88) (p2 := 29) (b_sh (j := 27) h rfl (by decide) rfl) rfl (by decide) (by decide) rfl (fun P h => ?_))))
    exact ex_56 ⟨_, _, _, rfl, h⟩
  obtain ⟨o, e, G1, I1, P1, rfl, h1⟩ := am_doQ (as := [(.inr (.inr (some 91))), (.inr (.inr (some 65))), (.inr (.inr (some 84))), (.inr (.inr (some 88)))]) (Nat.le_of_ble_eq_true rfl) rfl w
  exact ⟨G1, I1, P1, e, h1, hs0⟩
theorem b_c9 {d L : Nat} {xs : Nat → Int32} {G : am_G} {I : Nat → Nat → Int} {P : Nat → Nat → Option Nat} (h : AS L xs 31 30 4 284 G I P) : ∃ G1 I1 P1, am_call am_B am_M (d + 1) 74 [(.inr (.inr (some 94)))] (G, I, P) = some (none, (G1, I1, P1)) ∧ AS L xs 34 33 4 332 G1 I1 P1 ∧ G.2.2 94 = .inr 8 := by
  have hs0 : G.2.2 94 = .inr 8 := b_sh (j := 30) h rfl (by decide) rfl
  have w : am_ex (am_call am_B am_M (d + 0)) (am_B 74) (am_B 74 0) [some (.inr (.inr (some 94)))] [] (G, I, P) (fun o => ∃ G1 I1 P1, o = (none, (G1, I1, P1)) ∧ AS L xs 34 33 4 332 G1 I1 P1) := by
    clear hs0
    refine (ex_6_0 (ex_47 rfl (ex_6_0 (ex_0 (b_39 h (f := 36) (q := 95) (n2 := 32) (sl2 := 320) ⟨by decide, by decide⟩ rfl rfl rfl rfl rfl (fun G I P h => ?_))))))
    refine (b_42r h (q := 94) (k := 0) (r := 95) (p2 := 31) (b_sh (j := 30) h rfl (by decide) rfl) rfl (by decide) (by decide) rfl (fun P h => ?_))
    refine (ex_6_0 (ex_0 (b_39 h (f := 6) (q := 96) (n2 := 33) (sl2 := 326) ⟨by decide, by decide⟩ rfl rfl rfl rfl rfl (fun G I P h => ?_))))
    refine (b_42r h (q := 94) (k := 1) (r := 96) (p2 := 32) (b_sh (j := 30) h rfl (by decide) rfl) rfl (by decide) (by decide) rfl (fun P h => ?_))
    refine (ex_6_0 (ex_0 (b_39 h (f := 6) (q := 97) (n2 := 34) (sl2 := 332) ⟨by decide, by decide⟩ rfl rfl rfl rfl rfl (fun G I P h => ?_))))
    refine (b_42r h (q := 94) (k := 2) (r := 97) (p2 := 33) (b_sh (j := 30) h rfl (by decide) rfl) rfl (by decide) (by decide) rfl (fun P h => ?_))
    exact ex_56 ⟨_, _, _, rfl, h⟩
  obtain ⟨o, e, G1, I1, P1, rfl, h1⟩ := am_doQ (as := [(.inr (.inr (some 94)))]) (Nat.le_of_ble_eq_true rfl) rfl w
  exact ⟨G1, I1, P1, e, h1, hs0⟩
theorem b_c8 {d L : Nat} {xs : Nat → Int32} {G : am_G} {I : Nat → Nat → Int} {P : Nat → Nat → Option Nat} (h : AS L xs 30 30 4 280 G I P) : ∃ G1 I1 P1, am_call am_B am_M (d + 2) 10 [(.inr (.inr (some 93)))] (G, I, P) = some (none, (G1, I1, P1)) ∧ AS L xs 46 46 8 396 G1 I1 P1 ∧ G.2.2 93 = .inr 1 := by
  have hs0 : G.2.2 93 = .inr 1 := b_sh (j := 29) h rfl (by decide) rfl
  have w : am_ex (am_call am_B am_M (d + 1)) (am_B 10) (am_B 10 0) [some (.inr (.inr (some 93)))] [] (G, I, P) (fun o => ∃ G1 I1 P1, o = (none, (G1, I1, P1)) ∧ AS L xs 46 46 8 396 G1 I1 P1) := by
    clear hs0
    refine (ex_6_0 (ex_47 rfl (ex_6_0 (b_44 h (ci := 8) (f := 4) (q := 94) (n2 := 31) (sl2 := 284) rfl rfl rfl rfl rfl (fun G I P h => ?_)))))
    refine (ex_22 rfl ?_)
    obtain ⟨G, I, P, e_, h_, hs_⟩ := b_c9 (d := d) h
    refine (ix_46 (S' := [(.inr (.inr (some 94))), (.inr (.inr (some 93)))]) rfl hs_ e_ rfl rfl ?_)
    clear hs_ e_
    skip
    have h := h_
    refine (b_42r h (q := 93) (k := 0) (r := 94) (p2 := 34) (b_sh (j := 29) h rfl (by decide) rfl) rfl (by decide) (by decide) rfl (fun P h => ?_))
    refine (ex_6_0 (ex_0 (b_39 h (f := 6) (q := 98) (n2 := 35) (sl2 := 338) ⟨by decide, by decide⟩ rfl rfl rfl rfl rfl (fun G I P h => ?_))))
    refine (b_42r h (q := 93) (k := 1) (r := 98) (p2 := 35) (b_sh (j := 29) h rfl (by decide) rfl) rfl (by decide) (by decide) rfl (fun P h => ?_))
    refine (ex_6_0 (ex_0 (b_39 h (f := 6) (q := 99) (n2 := 36) (sl2 := 344) ⟨by decide, by decide⟩ rfl rfl rfl rfl rfl (fun G I P h => ?_))))
    refine (b_42r h (q := 93) (k := 2) (r := 99) (p2 := 36) (b_sh (j := 29) h rfl (by decide) rfl) rfl (by decide) (by decide) rfl (fun P h => ?_))
    refine (ex_6_0 (ex_0 (b_39 h (f := 6) (q := 100) (n2 := 37) (sl2 := 350) ⟨by decide, by decide⟩ rfl rfl rfl rfl rfl (fun G I P h => ?_))))
    refine (b_42r h (q := 93) (k := 3) (r := 100) (p2 := 37) (b_sh (j := 29) h rfl (by decide) rfl) rfl (by decide) (by decide) rfl (fun P h => ?_))
    refine (ex_6_0 (ex_0 (b_39 h (f := 5) (q := 101) (n2 := 38) (sl2 := 355) ⟨by decide, by decide⟩ rfl rfl rfl rfl rfl (fun G I P h => ?_))))
    refine (b_42r h (q := 93) (k := 5) (r := 101) (p2 := 38) (b_sh (j := 29) h rfl (by decide) rfl) rfl (by decide) (by decide) rfl (fun P h => ?_))
    refine (ex_6_0 (ex_0 (b_39 h (f := 5) (q := 102) (n2 := 39) (sl2 := 360) ⟨by decide, by decide⟩ rfl rfl rfl rfl rfl (fun G I P h => ?_))))
    refine (b_42r h (q := 93) (k := 6) (r := 102) (p2 := 39) (b_sh (j := 29) h rfl (by decide) rfl) rfl (by decide) (by decide) rfl (fun P h => ?_))
    refine (ex_6_0 (ex_0 (b_39 h (f := 5) (q := 103) (n2 := 40) (sl2 := 365) ⟨by decide, by decide⟩ rfl rfl rfl rfl rfl (fun G I P h => ?_))))
    refine (b_42r h (q := 93) (k := 7) (r := 103) (p2 := 40) (b_sh (j := 29) h rfl (by decide) rfl) rfl (by decide) (by decide) rfl (fun P h => ?_))
    refine (ex_6_0 (ex_0 (b_39 h (f := 5) (q := 104) (n2 := 41) (sl2 := 370) ⟨by decide, by decide⟩ rfl rfl rfl rfl rfl (fun G I P h => ?_))))
    refine (b_42r h (q := 93) (k := 8) (r := 104) (p2 := 41) (b_sh (j := 29) h rfl (by decide) rfl) rfl (by decide) (by decide) rfl (fun P h => ?_))
    refine (ex_6_0 (ex_0 (b_39 h (f := 5) (q := 105) (n2 := 42) (sl2 := 375) ⟨by decide, by decide⟩ rfl rfl rfl rfl rfl (fun G I P h => ?_))))
    refine (b_42r h (q := 93) (k := 9) (r := 105) (p2 := 42) (b_sh (j := 29) h rfl (by decide) rfl) rfl (by decide) (by decide) rfl (fun P h => ?_))
    refine (ex_6_0 (ex_0 (b_39 h (f := 6) (q := 106) (n2 := 43) (sl2 := 381) ⟨by decide, by decide⟩ rfl rfl rfl rfl rfl (fun G I P h => ?_))))
    refine (b_42r h (q := 93) (k := 11) (r := 106) (p2 := 43) (b_sh (j := 29) h rfl (by decide) rfl) rfl (by decide) (by decide) rfl (fun P h => ?_))
    refine (ex_6_0 (ex_0 (b_39 h (f := 6) (q := 107) (n2 := 44) (sl2 := 387) ⟨by decide, by decide⟩ rfl rfl rfl rfl rfl (fun G I P h => ?_))))
    refine (b_42r h (q := 93) (k := 12) (r := 107) (p2 := 44) (b_sh (j := 29) h rfl (by decide) rfl) rfl (by decide) (by decide) rfl (fun P h => ?_))
    refine (ex_6_0 (ex_0 (b_39 h (f := 3) (q := 108) (n2 := 45) (sl2 := 390) ⟨by decide, by decide⟩ rfl rfl rfl rfl rfl (fun G I P h => ?_))))
    refine (ex_22 rfl (ex_0 (ex_0 (b_34 h (q := 108) (k := 0) (v := 0) (i2 := 5) (b_sh (j := 44) h rfl (by decide) rfl) (by decide) (by decide) rfl rfl (by decide) (by decide) rfl (fun I h => ?_)))))
    refine (ex_22 rfl (ex_0 (ex_0 (b_34 h (q := 108) (k := 1) (v := 1) (i2 := 6) (b_sh (j := 44) h rfl (by decide) rfl) (by decide) (by decide) rfl rfl (by decide) (by decide) rfl (fun I h => ?_)))))
    refine (ex_22 rfl (ex_0 (ex_0 (b_34 h (q := 108) (k := 2) (v := 0) (i2 := 7) (b_sh (j := 44) h rfl (by decide) rfl) (by decide) (by decide) rfl rfl (by decide) (by decide) rfl (fun I h => ?_)))))
    refine (b_42r h (q := 93) (k := 14) (r := 108) (p2 := 45) (b_sh (j := 29) h rfl (by decide) rfl) rfl (by decide) (by decide) rfl (fun P h => ?_))
    refine (ex_6_0 (ex_0 (b_39 h (f := 6) (q := 109) (n2 := 46) (sl2 := 396) ⟨by decide, by decide⟩ rfl rfl rfl rfl rfl (fun G I P h => ?_))))
    refine (b_42r h (q := 93) (k := 15) (r := 109) (p2 := 46) (b_sh (j := 29) h rfl (by decide) rfl) rfl (by decide) (by decide) rfl (fun P h => ?_))
    refine (ex_6_0 (ex_0 (b_42i h (q := 93) (k := 17) (v := (-1)) (i2 := 8) (b_sh (j := 29) h rfl (by decide) rfl) rfl (by decide) (by decide) rfl (fun I h => ?_))))
    exact ex_56 ⟨_, _, _, rfl, h⟩
  obtain ⟨o, e, G1, I1, P1, rfl, h1⟩ := am_doQ (as := [(.inr (.inr (some 93)))]) (Nat.le_of_ble_eq_true rfl) rfl w
  exact ⟨G1, I1, P1, e, h1, hs0⟩
theorem b_c10 {d L : Nat} {xs : Nat → Int32} {G : am_G} {I : Nat → Nat → Int} {P : Nat → Nat → Option Nat} (h : AS L xs 47 47 8 401 G I P) : ∃ G1 I1 P1, am_call am_B am_M (d + 1) 40 [(.inr (.inr (some 110)))] (G, I, P) = some (none, (G1, I1, P1)) ∧ AS L xs 50 50 8 449 G1 I1 P1 ∧ G.2.2 110 = .inr 4 := by
  have hs0 : G.2.2 110 = .inr 4 := b_sh (j := 46) h rfl (by decide) rfl
  have w : am_ex (am_call am_B am_M (d + 0)) (am_B 40) (am_B 40 0) [some (.inr (.inr (some 110)))] [] (G, I, P) (fun o => ∃ G1 I1 P1, o = (none, (G1, I1, P1)) ∧ AS L xs 50 50 8 449 G1 I1 P1) := by
    clear hs0
    refine (ex_6_0 (ex_47 rfl (ex_6_0 (ex_0 (b_39 h (f := 16) (q := 111) (n2 := 48) (sl2 := 417) ⟨by decide, by decide⟩ rfl rfl rfl rfl rfl (fun G I P h => ?_))))))
    refine (b_42r h (q := 110) (k := 0) (r := 111) (p2 := 48) (b_sh (j := 46) h rfl (by decide) rfl) rfl (by decide) (by decide) rfl (fun P h => ?_))
    refine (ex_6_0 (ex_0 (b_39 h (f := 16) (q := 112) (n2 := 49) (sl2 := 433) ⟨by decide, by decide⟩ rfl rfl rfl rfl rfl (fun G I P h => ?_))))
    refine (b_42r h (q := 110) (k := 1) (r := 112) (p2 := 49) (b_sh (j := 46) h rfl (by decide) rfl) rfl (by decide) (by decide) rfl (fun P h => ?_))
    refine (ex_6_0 (ex_0 (b_39 h (f := 16) (q := 113) (n2 := 50) (sl2 := 449) ⟨by decide, by decide⟩ rfl rfl rfl rfl rfl (fun G I P h => ?_))))
    refine (b_42r h (q := 110) (k := 2) (r := 113) (p2 := 50) (b_sh (j := 46) h rfl (by decide) rfl) rfl (by decide) (by decide) rfl (fun P h => ?_))
    exact ex_56 ⟨_, _, _, rfl, h⟩
  obtain ⟨o, e, G1, I1, P1, rfl, h1⟩ := am_doQ (as := [(.inr (.inr (some 110)))]) (Nat.le_of_ble_eq_true rfl) rfl w
  exact ⟨G1, I1, P1, e, h1, hs0⟩
theorem b_c7 {d L : Nat} {xs : Nat → Int32} {G : am_G} {I : Nat → Nat → Int} {P : Nat → Nat → Option Nat} (h : AS L xs 29 30 4 262 G I P) : ∃ G1 I1 P1, am_call am_B am_M (d + 3) 49 [(.inr (.inr (some 92))), (.inr (.inr (some 91)))] (G, I, P) = some (none, (G1, I1, P1)) ∧ AS L xs 52 54 9 497 G1 I1 P1 ∧ G.2.2 92 = .inr 5 := by
  have hs0 : G.2.2 92 = .inr 5 := b_sh (j := 28) h rfl (by decide) rfl
  have w : am_ex (am_call am_B am_M (d + 2)) (am_B 49) (am_B 49 0) [some (.inr (.inr (some 92))), some (.inr (.inr (some 91)))] [] (G, I, P) (fun o => ∃ G1 I1 P1, o = (none, (G1, I1, P1)) ∧ AS L xs 52 54 9 497 G1 I1 P1) := by
    clear hs0
    refine (ex_6_0 (ex_47 rfl (ex_6_0 (b_44 h (ci := 1) (f := 18) (q := 93) (n2 := 30) (sl2 := 280) rfl rfl rfl rfl rfl (fun G I P h => ?_)))))
    refine (ex_22 rfl ?_)
    obtain ⟨G, I, P, e_, h_, hs_⟩ := b_c8 (d := d) h
    refine (ix_46 (S' := [(.inr (.inr (some 93))), (.inr (.inr (some 92)))]) rfl hs_ e_ rfl rfl ?_)
    clear hs_ e_
    skip
    have h := h_
    refine (b_42r h (q := 92) (k := 1) (r := 93) (p2 := 47) (b_sh (j := 28) h rfl (by decide) rfl) rfl (by decide) (by decide) rfl (fun P h => ?_))
    refine (ex_6_0 (b_44 h (ci := 4) (f := 5) (q := 110) (n2 := 47) (sl2 := 401) rfl rfl rfl rfl rfl (fun G I P h => ?_)))
    refine (ex_22 rfl ?_)
    obtain ⟨G, I, P, e_, h_, hs_⟩ := b_c10 (d := d + 1) h
    refine (ix_46 (S' := [(.inr (.inr (some 110))), (.inr (.inr (some 92)))]) rfl hs_ e_ rfl rfl ?_)
    clear hs_ e_
    skip
    have h := h_
    refine (b_42r h (q := 92) (k := 2) (r := 110) (p2 := 51) (b_sh (j := 28) h rfl (by decide) rfl) rfl (by decide) (by decide) rfl (fun P h => ?_))
    refine (ex_6_0 (ex_0 (b_39 h (f := 16) (q := 114) (n2 := 51) (sl2 := 465) ⟨by decide, by decide⟩ rfl rfl rfl rfl rfl (fun G I P h => ?_))))
    refine (b_42r h (q := 92) (k := 3) (r := 114) (p2 := 52) (b_sh (j := 28) h rfl (by decide) rfl) rfl (by decide) (by decide) rfl (fun P h => ?_))
    refine (ex_6_0 (ex_0 (b_39 h (f := 32) (q := 115) (n2 := 52) (sl2 := 497) ⟨by decide, by decide⟩ rfl rfl rfl rfl rfl (fun G I P h => ?_))))
    refine (b_42r h (q := 92) (k := 4) (r := 115) (p2 := 53) (b_sh (j := 28) h rfl (by decide) rfl) rfl (by decide) (by decide) rfl (fun P h => ?_))
    refine (ex_6_0 (ex_0 (b_42i h (q := 92) (k := 7) (v := (-1)) (i2 := 9) (b_sh (j := 28) h rfl (by decide) rfl) rfl (by decide) (by decide) rfl (fun I h => ?_))))
    refine (ex_6_0 (ex_6_1 (b_42r h (q := 92) (k := 0) (r := 91) (p2 := 54) (b_sh (j := 28) h rfl (by decide) rfl) rfl (by decide) (by decide) rfl (fun P h => ?_))))
    exact ex_56 ⟨_, _, _, rfl, h⟩
  obtain ⟨o, e, G1, I1, P1, rfl, h1⟩ := am_doQ (as := [(.inr (.inr (some 92))), (.inr (.inr (some 91)))]) (Nat.le_of_ble_eq_true rfl) rfl w
  exact ⟨G1, I1, P1, e, h1, hs0⟩
theorem b_c11 {d L : Nat} {xs : Nat → Int32} {G : am_G} {I : Nat → Nat → Int} {P : Nat → Nat → Option Nat} (h : AS L xs 53 55 9 502 G I P) : ∃ G1 I1 P1, am_call am_B am_M (d + 1) 0 [(.inr (.inr (some 116))), (.inr (.inr (some 88)))] (G, I, P) = some (none, (G1, I1, P1)) ∧ AS L xs 57 60 9 772 G1 I1 P1 ∧ G.2.2 116 = .inr 0 := by
  have hs0 : G.2.2 116 = .inr 0 := b_sh (j := 52) h rfl (by decide) rfl
  have w : am_ex (am_call am_B am_M (d + 0)) (am_B 0) (am_B 0 0) [some (.inr (.inr (some 116))), some (.inr (.inr (some 88)))] [] (G, I, P) (fun o => ∃ G1 I1 P1, o = (none, (G1, I1, P1)) ∧ AS L xs 57 60 9 772 G1 I1 P1) := by
    clear hs0
    refine (ex_6_0 (ex_47 rfl (ex_6_0 (ex_0 (b_39 h (f := 30) (q := 117) (n2 := 54) (sl2 := 532) ⟨by decide, by decide⟩ rfl rfl rfl rfl rfl (fun G I P h => ?_))))))
    refine (b_42r h (q := 116) (k := 1) (r := 117) (p2 := 56) (b_sh (j := 52) h rfl (by decide) rfl) rfl (by decide) (by decide) rfl (fun P h => ?_))
    refine (ex_6_0 (ex_0 (b_39 h (f := 224) (q := 118) (n2 := 55) (sl2 := 756) ⟨by decide, by decide⟩ rfl rfl rfl rfl rfl (fun G I P h => ?_))))
    refine (b_42r h (q := 116) (k := 2) (r := 118) (p2 := 57) (b_sh (j := 52) h rfl (by decide) rfl) rfl (by decide) (by decide) rfl (fun P h => ?_))
    refine (ex_6_0 (ex_0 (b_39 h (f := 11) (q := 119) (n2 := 56) (sl2 := 767) ⟨by decide, by decide⟩ rfl rfl rfl rfl rfl (fun G I P h => ?_))))
    refine (b_42r h (q := 116) (k := 3) (r := 119) (p2 := 58) (b_sh (j := 52) h rfl (by decide) rfl) rfl (by decide) (by decide) rfl (fun P h => ?_))
    refine (ex_6_0 (ex_0 (b_39 h (f := 5) (q := 120) (n2 := 57) (sl2 := 772) ⟨by decide, by decide⟩ rfl rfl rfl rfl rfl (fun G I P h => ?_))))
    refine (b_42r h (q := 116) (k := 4) (r := 120) (p2 := 59) (b_sh (j := 52) h rfl (by decide) rfl) rfl (by decide) (by decide) rfl (fun P h => ?_))
    refine (ex_6_0 (ex_6_1 (b_42r h (q := 116) (k := 0) (r := 88) (p2 := 60) (b_sh (j := 52) h rfl (by decide) rfl) rfl (by decide) (by decide) rfl (fun P h => ?_))))
    exact ex_56 ⟨_, _, _, rfl, h⟩
  obtain ⟨o, e, G1, I1, P1, rfl, h1⟩ := am_doQ (as := [(.inr (.inr (some 116))), (.inr (.inr (some 88)))]) (Nat.le_of_ble_eq_true rfl) rfl w
  exact ⟨G1, I1, P1, e, h1, hs0⟩
theorem b_c14 {d L : Nat} {xs : Nat → Int32} {G : am_G} {I : Nat → Nat → Int} {P : Nat → Nat → Option Nat} (h : AS L xs 60 61 9 799 G I P) : ∃ G1 I1 P1, am_call am_B am_M (d + 1) 74 [(.inr (.inr (some 123)))] (G, I, P) = some (none, (G1, I1, P1)) ∧ AS L xs 63 64 9 847 G1 I1 P1 ∧ G.2.2 123 = .inr 8 := by
  have hs0 : G.2.2 123 = .inr 8 := b_sh (j := 59) h rfl (by decide) rfl
  have w : am_ex (am_call am_B am_M (d + 0)) (am_B 74) (am_B 74 0) [some (.inr (.inr (some 123)))] [] (G, I, P) (fun o => ∃ G1 I1 P1, o = (none, (G1, I1, P1)) ∧ AS L xs 63 64 9 847 G1 I1 P1) := by
    clear hs0
    refine (ex_6_0 (ex_47 rfl (ex_6_0 (ex_0 (b_39 h (f := 36) (q := 124) (n2 := 61) (sl2 := 835) ⟨by decide, by decide⟩ rfl rfl rfl rfl rfl (fun G I P h => ?_))))))
    refine (b_42r h (q := 123) (k := 0) (r := 124) (p2 := 62) (b_sh (j := 59) h rfl (by decide) rfl) rfl (by decide) (by decide) rfl (fun P h => ?_))
    refine (ex_6_0 (ex_0 (b_39 h (f := 6) (q := 125) (n2 := 62) (sl2 := 841) ⟨by decide, by decide⟩ rfl rfl rfl rfl rfl (fun G I P h => ?_))))
    refine (b_42r h (q := 123) (k := 1) (r := 125) (p2 := 63) (b_sh (j := 59) h rfl (by decide) rfl) rfl (by decide) (by decide) rfl (fun P h => ?_))
    refine (ex_6_0 (ex_0 (b_39 h (f := 6) (q := 126) (n2 := 63) (sl2 := 847) ⟨by decide, by decide⟩ rfl rfl rfl rfl rfl (fun G I P h => ?_))))
    refine (b_42r h (q := 123) (k := 2) (r := 126) (p2 := 64) (b_sh (j := 59) h rfl (by decide) rfl) rfl (by decide) (by decide) rfl (fun P h => ?_))
    exact ex_56 ⟨_, _, _, rfl, h⟩
  obtain ⟨o, e, G1, I1, P1, rfl, h1⟩ := am_doQ (as := [(.inr (.inr (some 123)))]) (Nat.le_of_ble_eq_true rfl) rfl w
  exact ⟨G1, I1, P1, e, h1, hs0⟩
theorem b_c13 {d L : Nat} {xs : Nat → Int32} {G : am_G} {I : Nat → Nat → Int} {P : Nat → Nat → Option Nat} (h : AS L xs 59 61 9 795 G I P) : ∃ G1 I1 P1, am_call am_B am_M (d + 2) 10 [(.inr (.inr (some 122)))] (G, I, P) = some (none, (G1, I1, P1)) ∧ AS L xs 75 77 13 911 G1 I1 P1 ∧ G.2.2 122 = .inr 1 := by
  have hs0 : G.2.2 122 = .inr 1 := b_sh (j := 58) h rfl (by decide) rfl
  have w : am_ex (am_call am_B am_M (d + 1)) (am_B 10) (am_B 10 0) [some (.inr (.inr (some 122)))] [] (G, I, P) (fun o => ∃ G1 I1 P1, o = (none, (G1, I1, P1)) ∧ AS L xs 75 77 13 911 G1 I1 P1) := by
    clear hs0
    refine (ex_6_0 (ex_47 rfl (ex_6_0 (b_44 h (ci := 8) (f := 4) (q := 123) (n2 := 60) (sl2 := 799) rfl rfl rfl rfl rfl (fun G I P h => ?_)))))
    refine (ex_22 rfl ?_)
    obtain ⟨G, I, P, e_, h_, hs_⟩ := b_c14 (d := d) h
    refine (ix_46 (S' := [(.inr (.inr (some 123))), (.inr (.inr (some 122)))]) rfl hs_ e_ rfl rfl ?_)
    clear hs_ e_
    skip
    have h := h_
    refine (b_42r h (q := 122) (k := 0) (r := 123) (p2 := 65) (b_sh (j := 58) h rfl (by decide) rfl) rfl (by decide) (by decide) rfl (fun P h => ?_))
    refine (ex_6_0 (ex_0 (b_39 h (f := 6) (q := 127) (n2 := 64) (sl2 := 853) ⟨by decide, by decide⟩ rfl rfl rfl rfl rfl (fun G I P h => ?_))))
    refine (b_42r h (q := 122) (k := 1) (r := 127) (p2 := 66) (b_sh (j := 58) h rfl (by decide) rfl) rfl (by decide) (by decide) rfl (fun P h => ?_))
    refine (ex_6_0 (ex_0 (b_39 h (f := 6) (q := 128) (n2 := 65) (sl2 := 859) ⟨by decide, by decide⟩ rfl rfl rfl rfl rfl (fun G I P h => ?_))))
    refine (b_42r h (q := 122) (k := 2) (r := 128) (p2 := 67) (b_sh (j := 58) h rfl (by decide) rfl) rfl (by decide) (by decide) rfl (fun P h => ?_))
    refine (ex_6_0 (ex_0 (b_39 h (f := 6) (q := 129) (n2 := 66) (sl2 := 865) ⟨by decide, by decide⟩ rfl rfl rfl rfl rfl (fun G I P h => ?_))))
    refine (b_42r h (q := 122) (k := 3) (r := 129) (p2 := 68) (b_sh (j := 58) h rfl (by decide) rfl) rfl (by decide) (by decide) rfl (fun P h => ?_))
    refine (ex_6_0 (ex_0 (b_39 h (f := 5) (q := 130) (n2 := 67) (sl2 := 870) ⟨by decide, by decide⟩ rfl rfl rfl rfl rfl (fun G I P h => ?_))))
    refine (b_42r h (q := 122) (k := 5) (r := 130) (p2 := 69) (b_sh (j := 58) h rfl (by decide) rfl) rfl (by decide) (by decide) rfl (fun P h => ?_))
    refine (ex_6_0 (ex_0 (b_39 h (f := 5) (q := 131) (n2 := 68) (sl2 := 875) ⟨by decide, by decide⟩ rfl rfl rfl rfl rfl (fun G I P h => ?_))))
    refine (b_42r h (q := 122) (k := 6) (r := 131) (p2 := 70) (b_sh (j := 58) h rfl (by decide) rfl) rfl (by decide) (by decide) rfl (fun P h => ?_))
    refine (ex_6_0 (ex_0 (b_39 h (f := 5) (q := 132) (n2 := 69) (sl2 := 880) ⟨by decide, by decide⟩ rfl rfl rfl rfl rfl (fun G I P h => ?_))))
    refine (b_42r h (q := 122) (k := 7) (r := 132) (p2 := 71) (b_sh (j := 58) h rfl (by decide) rfl) rfl (by decide) (by decide) rfl (fun P h => ?_))
    refine (ex_6_0 (ex_0 (b_39 h (f := 5) (q := 133) (n2 := 70) (sl2 := 885) ⟨by decide, by decide⟩ rfl rfl rfl rfl rfl (fun G I P h => ?_))))
    refine (b_42r h (q := 122) (k := 8) (r := 133) (p2 := 72) (b_sh (j := 58) h rfl (by decide) rfl) rfl (by decide) (by decide) rfl (fun P h => ?_))
    refine (ex_6_0 (ex_0 (b_39 h (f := 5) (q := 134) (n2 := 71) (sl2 := 890) ⟨by decide, by decide⟩ rfl rfl rfl rfl rfl (fun G I P h => ?_))))
    refine (b_42r h (q := 122) (k := 9) (r := 134) (p2 := 73) (b_sh (j := 58) h rfl (by decide) rfl) rfl (by decide) (by decide) rfl (fun P h => ?_))
    refine (ex_6_0 (ex_0 (b_39 h (f := 6) (q := 135) (n2 := 72) (sl2 := 896) ⟨by decide, by decide⟩ rfl rfl rfl rfl rfl (fun G I P h => ?_))))
    refine (b_42r h (q := 122) (k := 11) (r := 135) (p2 := 74) (b_sh (j := 58) h rfl (by decide) rfl) rfl (by decide) (by decide) rfl (fun P h => ?_))
    refine (ex_6_0 (ex_0 (b_39 h (f := 6) (q := 136) (n2 := 73) (sl2 := 902) ⟨by decide, by decide⟩ rfl rfl rfl rfl rfl (fun G I P h => ?_))))
    refine (b_42r h (q := 122) (k := 12) (r := 136) (p2 := 75) (b_sh (j := 58) h rfl (by decide) rfl) rfl (by decide) (by decide) rfl (fun P h => ?_))
    refine (ex_6_0 (ex_0 (b_39 h (f := 3) (q := 137) (n2 := 74) (sl2 := 905) ⟨by decide, by decide⟩ rfl rfl rfl rfl rfl (fun G I P h => ?_))))
    refine (ex_22 rfl (ex_0 (ex_0 (b_34 h (q := 137) (k := 0) (v := 0) (i2 := 10) (b_sh (j := 73) h rfl (by decide) rfl) (by decide) (by decide) rfl rfl (by decide) (by decide) rfl (fun I h => ?_)))))
    refine (ex_22 rfl (ex_0 (ex_0 (b_34 h (q := 137) (k := 1) (v := 1) (i2 := 11) (b_sh (j := 73) h rfl (by decide) rfl) (by decide) (by decide) rfl rfl (by decide) (by decide) rfl (fun I h => ?_)))))
    refine (ex_22 rfl (ex_0 (ex_0 (b_34 h (q := 137) (k := 2) (v := 0) (i2 := 12) (b_sh (j := 73) h rfl (by decide) rfl) (by decide) (by decide) rfl rfl (by decide) (by decide) rfl (fun I h => ?_)))))
    refine (b_42r h (q := 122) (k := 14) (r := 137) (p2 := 76) (b_sh (j := 58) h rfl (by decide) rfl) rfl (by decide) (by decide) rfl (fun P h => ?_))
    refine (ex_6_0 (ex_0 (b_39 h (f := 6) (q := 138) (n2 := 75) (sl2 := 911) ⟨by decide, by decide⟩ rfl rfl rfl rfl rfl (fun G I P h => ?_))))
    refine (b_42r h (q := 122) (k := 15) (r := 138) (p2 := 77) (b_sh (j := 58) h rfl (by decide) rfl) rfl (by decide) (by decide) rfl (fun P h => ?_))
    refine (ex_6_0 (ex_0 (b_42i h (q := 122) (k := 17) (v := (-1)) (i2 := 13) (b_sh (j := 58) h rfl (by decide) rfl) rfl (by decide) (by decide) rfl (fun I h => ?_))))
    exact ex_56 ⟨_, _, _, rfl, h⟩
  obtain ⟨o, e, G1, I1, P1, rfl, h1⟩ := am_doQ (as := [(.inr (.inr (some 122)))]) (Nat.le_of_ble_eq_true rfl) rfl w
  exact ⟨G1, I1, P1, e, h1, hs0⟩
theorem b_c16 {d L : Nat} {xs : Nat → Int32} {G : am_G} {I : Nat → Nat → Int} {P : Nat → Nat → Option Nat} (h : AS L xs 77 78 13 933 G I P) : ∃ G1 I1 P1, am_call am_B am_M (d + 1) 74 [(.inr (.inr (some 140)))] (G, I, P) = some (none, (G1, I1, P1)) ∧ AS L xs 80 81 13 981 G1 I1 P1 ∧ G.2.2 140 = .inr 8 := by
  have hs0 : G.2.2 140 = .inr 8 := b_sh (j := 76) h rfl (by decide) rfl
  have w : am_ex (am_call am_B am_M (d + 0)) (am_B 74) (am_B 74 0) [some (.inr (.inr (some 140)))] [] (G, I, P) (fun o => ∃ G1 I1 P1, o = (none, (G1, I1, P1)) ∧ AS L xs 80 81 13 981 G1 I1 P1) := by
    clear hs0
    refine (ex_6_0 (ex_47 rfl (ex_6_0 (ex_0 (b_39 h (f := 36) (q := 141) (n2 := 78) (sl2 := 969) ⟨by decide, by decide⟩ rfl rfl rfl rfl rfl (fun G I P h => ?_))))))
    refine (b_42r h (q := 140) (k := 0) (r := 141) (p2 := 79) (b_sh (j := 76) h rfl (by decide) rfl) rfl (by decide) (by decide) rfl (fun P h => ?_))
    refine (ex_6_0 (ex_0 (b_39 h (f := 6) (q := 142) (n2 := 79) (sl2 := 975) ⟨by decide, by decide⟩ rfl rfl rfl rfl rfl (fun G I P h => ?_))))
    refine (b_42r h (q := 140) (k := 1) (r := 142) (p2 := 80) (b_sh (j := 76) h rfl (by decide) rfl) rfl (by decide) (by decide) rfl (fun P h => ?_))
    refine (ex_6_0 (ex_0 (b_39 h (f := 6) (q := 143) (n2 := 80) (sl2 := 981) ⟨by decide, by decide⟩ rfl rfl rfl rfl rfl (fun G I P h => ?_))))
    refine (b_42r h (q := 140) (k := 2) (r := 143) (p2 := 81) (b_sh (j := 76) h rfl (by decide) rfl) rfl (by decide) (by decide) rfl (fun P h => ?_))
    exact ex_56 ⟨_, _, _, rfl, h⟩
  obtain ⟨o, e, G1, I1, P1, rfl, h1⟩ := am_doQ (as := [(.inr (.inr (some 140)))]) (Nat.le_of_ble_eq_true rfl) rfl w
  exact ⟨G1, I1, P1, e, h1, hs0⟩
theorem b_c15 {d L : Nat} {xs : Nat → Int32} {G : am_G} {I : Nat → Nat → Int} {P : Nat → Nat → Option Nat} (h : AS L xs 76 78 13 929 G I P) : ∃ G1 I1 P1, am_call am_B am_M (d + 2) 10 [(.inr (.inr (some 139)))] (G, I, P) = some (none, (G1, I1, P1)) ∧ AS L xs 92 94 17 1045 G1 I1 P1 ∧ G.2.2 139 = .inr 1 := by
  have hs0 : G.2.2 139 = .inr 1 := b_sh (j := 75) h rfl (by decide) rfl
  have w : am_ex (am_call am_B am_M (d + 1)) (am_B 10) (am_B 10 0) [some (.inr (.inr (some 139)))] [] (G, I, P) (fun o => ∃ G1 I1 P1, o = (none, (G1, I1, P1)) ∧ AS L xs 92 94 17 1045 G1 I1 P1) := by
    clear hs0
    refine (ex_6_0 (ex_47 rfl (ex_6_0 (b_44 h (ci := 8) (f := 4) (q := 140) (n2 := 77) (sl2 := 933) rfl rfl rfl rfl rfl (fun G I P h => ?_)))))
    refine (ex_22 rfl ?_)
    obtain ⟨G, I, P, e_, h_, hs_⟩ := b_c16 (d := d) h
    refine (ix_46 (S' := [(.inr (.inr (some 140))), (.inr (.inr (some 139)))]) rfl hs_ e_ rfl rfl ?_)
    clear hs_ e_
    skip
    have h := h_
    refine (b_42r h (q := 139) (k := 0) (r := 140) (p2 := 82) (b_sh (j := 75) h rfl (by decide) rfl) rfl (by decide) (by decide) rfl (fun P h => ?_))
    refine (ex_6_0 (ex_0 (b_39 h (f := 6) (q := 144) (n2 := 81) (sl2 := 987) ⟨by decide, by decide⟩ rfl rfl rfl rfl rfl (fun G I P h => ?_))))
    refine (b_42r h (q := 139) (k := 1) (r := 144) (p2 := 83) (b_sh (j := 75) h rfl (by decide) rfl) rfl (by decide) (by decide) rfl (fun P h => ?_))
    refine (ex_6_0 (ex_0 (b_39 h (f := 6) (q := 145) (n2 := 82) (sl2 := 993) ⟨by decide, by decide⟩ rfl rfl rfl rfl rfl (fun G I P h => ?_))))
    refine (b_42r h (q := 139) (k := 2) (r := 145) (p2 := 84) (b_sh (j := 75) h rfl (by decide) rfl) rfl (by decide) (by decide) rfl (fun P h => ?_))
    refine (ex_6_0 (ex_0 (b_39 h (f := 6) (q := 146) (n2 := 83) (sl2 := 999) ⟨by decide, by decide⟩ rfl rfl rfl rfl rfl (fun G I P h => ?_))))
    refine (b_42r h (q := 139) (k := 3) (r := 146) (p2 := 85) (b_sh (j := 75) h rfl (by decide) rfl) rfl (by decide) (by decide) rfl (fun P h => ?_))
    refine (ex_6_0 (ex_0 (b_39 h (f := 5) (q := 147) (n2 := 84) (sl2 := 1004) ⟨by decide, by decide⟩ rfl rfl rfl rfl rfl (fun G I P h => ?_))))
    refine (b_42r h (q := 139) (k := 5) (r := 147) (p2 := 86) (b_sh (j := 75) h rfl (by decide) rfl) rfl (by decide) (by decide) rfl (fun P h => ?_))
    refine (ex_6_0 (ex_0 (b_39 h (f := 5) (q := 148) (n2 := 85) (sl2 := 1009) ⟨by decide, by decide⟩ rfl rfl rfl rfl rfl (fun G I P h => ?_))))
    refine (b_42r h (q := 139) (k := 6) (r := 148) (p2 := 87) (b_sh (j := 75) h rfl (by decide) rfl) rfl (by decide) (by decide) rfl (fun P h => ?_))
    refine (ex_6_0 (ex_0 (b_39 h (f := 5) (q := 149) (n2 := 86) (sl2 := 1014) ⟨by decide, by decide⟩ rfl rfl rfl rfl rfl (fun G I P h => ?_))))
    refine (b_42r h (q := 139) (k := 7) (r := 149) (p2 := 88) (b_sh (j := 75) h rfl (by decide) rfl) rfl (by decide) (by decide) rfl (fun P h => ?_))
    refine (ex_6_0 (ex_0 (b_39 h (f := 5) (q := 150) (n2 := 87) (sl2 := 1019) ⟨by decide, by decide⟩ rfl rfl rfl rfl rfl (fun G I P h => ?_))))
    refine (b_42r h (q := 139) (k := 8) (r := 150) (p2 := 89) (b_sh (j := 75) h rfl (by decide) rfl) rfl (by decide) (by decide) rfl (fun P h => ?_))
    refine (ex_6_0 (ex_0 (b_39 h (f := 5) (q := 151) (n2 := 88) (sl2 := 1024) ⟨by decide, by decide⟩ rfl rfl rfl rfl rfl (fun G I P h => ?_))))
    refine (b_42r h (q := 139) (k := 9) (r := 151) (p2 := 90) (b_sh (j := 75) h rfl (by decide) rfl) rfl (by decide) (by decide) rfl (fun P h => ?_))
    refine (ex_6_0 (ex_0 (b_39 h (f := 6) (q := 152) (n2 := 89) (sl2 := 1030) ⟨by decide, by decide⟩ rfl rfl rfl rfl rfl (fun G I P h => ?_))))
    refine (b_42r h (q := 139) (k := 11) (r := 152) (p2 := 91) (b_sh (j := 75) h rfl (by decide) rfl) rfl (by decide) (by decide) rfl (fun P h => ?_))
    refine (ex_6_0 (ex_0 (b_39 h (f := 6) (q := 153) (n2 := 90) (sl2 := 1036) ⟨by decide, by decide⟩ rfl rfl rfl rfl rfl (fun G I P h => ?_))))
    refine (b_42r h (q := 139) (k := 12) (r := 153) (p2 := 92) (b_sh (j := 75) h rfl (by decide) rfl) rfl (by decide) (by decide) rfl (fun P h => ?_))
    refine (ex_6_0 (ex_0 (b_39 h (f := 3) (q := 154) (n2 := 91) (sl2 := 1039) ⟨by decide, by decide⟩ rfl rfl rfl rfl rfl (fun G I P h => ?_))))
    refine (ex_22 rfl (ex_0 (ex_0 (b_34 h (q := 154) (k := 0) (v := 0) (i2 := 14) (b_sh (j := 90) h rfl (by decide) rfl) (by decide) (by decide) rfl rfl (by decide) (by decide) rfl (fun I h => ?_)))))
    refine (ex_22 rfl (ex_0 (ex_0 (b_34 h (q := 154) (k := 1) (v := 1) (i2 := 15) (b_sh (j := 90) h rfl (by decide) rfl) (by decide) (by decide) rfl rfl (by decide) (by decide) rfl (fun I h => ?_)))))
    refine (ex_22 rfl (ex_0 (ex_0 (b_34 h (q := 154) (k := 2) (v := 0) (i2 := 16) (b_sh (j := 90) h rfl (by decide) rfl) (by decide) (by decide) rfl rfl (by decide) (by decide) rfl (fun I h => ?_)))))
    refine (b_42r h (q := 139) (k := 14) (r := 154) (p2 := 93) (b_sh (j := 75) h rfl (by decide) rfl) rfl (by decide) (by decide) rfl (fun P h => ?_))
    refine (ex_6_0 (ex_0 (b_39 h (f := 6) (q := 155) (n2 := 92) (sl2 := 1045) ⟨by decide, by decide⟩ rfl rfl rfl rfl rfl (fun G I P h => ?_))))
    refine (b_42r h (q := 139) (k := 15) (r := 155) (p2 := 94) (b_sh (j := 75) h rfl (by decide) rfl) rfl (by decide) (by decide) rfl (fun P h => ?_))
    refine (ex_6_0 (ex_0 (b_42i h (q := 139) (k := 17) (v := (-1)) (i2 := 17) (b_sh (j := 75) h rfl (by decide) rfl) rfl (by decide) (by decide) rfl (fun I h => ?_))))
    exact ex_56 ⟨_, _, _, rfl, h⟩
  obtain ⟨o, e, G1, I1, P1, rfl, h1⟩ := am_doQ (as := [(.inr (.inr (some 139)))]) (Nat.le_of_ble_eq_true rfl) rfl w
  exact ⟨G1, I1, P1, e, h1, hs0⟩
theorem b_c17 {d L : Nat} {xs : Nat → Int32} {G : am_G} {I : Nat → Nat → Int} {P : Nat → Nat → Option Nat} (h : AS L xs 94 96 17 1053 G I P) : ∃ G1 I1 P1, am_call am_B am_M (d + 1) 40 [(.inr (.inr (some 157)))] (G, I, P) = some (none, (G1, I1, P1)) ∧ AS L xs 97 99 17 1101 G1 I1 P1 ∧ G.2.2 157 = .inr 4 := by
  have hs0 : G.2.2 157 = .inr 4 := b_sh (j := 93) h rfl (by decide) rfl
  have w : am_ex (am_call am_B am_M (d + 0)) (am_B 40) (am_B 40 0) [some (.inr (.inr (some 157)))] [] (G, I, P) (fun o => ∃ G1 I1 P1, o = (none, (G1, I1, P1)) ∧ AS L xs 97 99 17 1101 G1 I1 P1) := by
    clear hs0
    refine (ex_6_0 (ex_47 rfl (ex_6_0 (ex_0 (b_39 h (f := 16) (q := 158) (n2 := 95) (sl2 := 1069) ⟨by decide, by decide⟩ rfl rfl rfl rfl rfl (fun G I P h => ?_))))))
    refine (b_42r h (q := 157) (k := 0) (r := 158) (p2 := 97) (b_sh (j := 93) h rfl (by decide) rfl) rfl (by decide) (by decide) rfl (fun P h => ?_))
    refine (ex_6_0 (ex_0 (b_39 h (f := 16) (q := 159) (n2 := 96) (sl2 := 1085) ⟨by decide, by decide⟩ rfl rfl rfl rfl rfl (fun G I P h => ?_))))
    refine (b_42r h (q := 157) (k := 1) (r := 159) (p2 := 98) (b_sh (j := 93) h rfl (by decide) rfl) rfl (by decide) (by decide) rfl (fun P h => ?_))
    refine (ex_6_0 (ex_0 (b_39 h (f := 16) (q := 160) (n2 := 97) (sl2 := 1101) ⟨by decide, by decide⟩ rfl rfl rfl rfl rfl (fun G I P h => ?_))))
    refine (b_42r h (q := 157) (k := 2) (r := 160) (p2 := 99) (b_sh (j := 93) h rfl (by decide) rfl) rfl (by decide) (by decide) rfl (fun P h => ?_))
    exact ex_56 ⟨_, _, _, rfl, h⟩
  obtain ⟨o, e, G1, I1, P1, rfl, h1⟩ := am_doQ (as := [(.inr (.inr (some 157)))]) (Nat.le_of_ble_eq_true rfl) rfl w
  exact ⟨G1, I1, P1, e, h1, hs0⟩
theorem b_c18 {d L : Nat} {xs : Nat → Int32} {G : am_G} {I : Nat → Nat → Int} {P : Nat → Nat → Option Nat} (h : AS L xs 97 99 17 1101 G I P) : ∃ G1 I1 P1, am_call am_B am_M (d + 1) 21 [(.inr (.inr (some 156))), (.inr (.inr (some 139))), (.inr (.inr (some 157))), (.inr (.inr (some 88)))] (G, I, P) = some (none, (G1, I1, P1)) ∧ AS L xs 97 102 17 1101 G1 I1 P1 ∧ G.2.2 156 = .inr 2 := by
  have hs0 : G.2.2 156 = .inr 2 := b_sh (j := 92) h rfl (by decide) rfl
  have w : am_ex (am_call am_B am_M (d + 0)) (am_B 21) (am_B 21 0) [some (.inr (.inr (some 156))), some (.inr (.inr (some 139))), some (.inr (.inr (some 157))), some (.inr (.inr (some 88)))] [] (G, I, P) (fun o => ∃ G1 I1 P1, o = (none, (G1, I1, P1)) ∧ AS L xs 97 102 17 1101 G1 I1 P1) := by
    clear hs0
    refine (ex_6_0 (ex_47 rfl (ex_6_0 (ex_6_1 (b_42r h (q := 156) (k := 0) (r := 139) (p2 := 100) (b_sh (j := 92) h rfl (by decide) rfl) rfl (by decide) (by decide) rfl (fun P h => ?_))))))
    refine (ex_6_0 (ex_6_2 (b_42r h (q := 156) (k := 1) (r := 157) (p2 := 101) (b_sh (j := 92) h rfl (by decide) rfl) rfl (by decide) (by decide) rfl (fun P h => ?_))))
    refine (ex_6_0 (ex_6_3 (b_42r h (q := 156) (k := 2) (r := 88) (p2 := 102) (b_sh (j := 92) h rfl (by decide) rfl) rfl (by decide) (by decide) rfl (fun P h => ?_))))
    exact ex_56 ⟨_, _, _, rfl, h⟩
  obtain ⟨o, e, G1, I1, P1, rfl, h1⟩ := am_doQ (as := [(.inr (.inr (some 156))), (.inr (.inr (some 139))), (.inr (.inr (some 157))), (.inr (.inr (some 88)))]) (Nat.le_of_ble_eq_true rfl) rfl w
  exact ⟨G1, I1, P1, e, h1, hs0⟩
theorem b_c12 {d L : Nat} {xs : Nat → Int32} {G : am_G} {I : Nat → Nat → Int} {P : Nat → Nat → Option Nat} (h : AS L xs 58 61 9 777 G I P) : ∃ G1 I1 P1, am_call am_B am_M (d + 3) 53 [(.inr (.inr (some 121))), (.inr (.inr (some 88)))] (G, I, P) = some (none, (G1, I1, P1)) ∧ AS L xs 97 103 17 1101 G1 I1 P1 ∧ G.2.2 121 = .inr 6 := by
  have hs0 : G.2.2 121 = .inr 6 := b_sh (j := 57) h rfl (by decide) rfl
  have w : am_ex (am_call am_B am_M (d + 2)) (am_B 53) (am_B 53 0) [some (.inr (.inr (some 121))), some (.inr (.inr (some 88)))] [] (G, I, P) (fun o => ∃ G1 I1 P1, o = (none, (G1, I1, P1)) ∧ AS L xs 97 103 17 1101 G1 I1 P1) := by
    clear hs0
    refine (ex_6_0 (ex_47 rfl (ex_6_0 (b_44 h (ci := 1) (f := 18) (q := 122) (n2 := 59) (sl2 := 795) rfl rfl rfl rfl rfl (fun G I P h => ?_)))))
    refine (ex_22 rfl ?_)
    obtain ⟨G, I, P, e_, h_, hs_⟩ := b_c13 (d := d) h
    refine (ix_46 (S' := [(.inr (.inr (some 122))), (.inr (.inr (some 121)))]) rfl hs_ e_ rfl rfl ?_)
    clear hs_ e_
    skip
    have h := h_
    refine (b_42r h (q := 121) (k := 1) (r := 122) (p2 := 78) (b_sh (j := 57) h rfl (by decide) rfl) rfl (by decide) (by decide) rfl (fun P h => ?_))
    refine (ex_6_0 (b_44 h (ci := 1) (f := 18) (q := 139) (n2 := 76) (sl2 := 929) rfl rfl rfl rfl rfl (fun G I P h => ?_)))
    refine (ex_22 rfl ?_)
    obtain ⟨G, I, P, e_, h_, hs_⟩ := b_c15 (d := d) h
    refine (ix_46 (S' := [(.inr (.inr (some 139))), (.inr (.inr (some 121)))]) rfl hs_ e_ rfl rfl ?_)
    clear hs_ e_
    skip
    have h := h_
    refine (b_42r h (q := 121) (k := 2) (r := 139) (p2 := 95) (b_sh (j := 57) h rfl (by decide) rfl) rfl (by decide) (by decide) rfl (fun P h => ?_))
    refine (ex_6_0 (ex_6_1 (b_42r h (q := 121) (k := 0) (r := 88) (p2 := 96) (b_sh (j := 57) h rfl (by decide) rfl) rfl (by decide) (by decide) rfl (fun P h => ?_))))
    refine (ex_6_0 (b_44 h (ci := 2) (f := 3) (q := 156) (n2 := 93) (sl2 := 1048) rfl rfl rfl rfl rfl (fun G I P h => ?_)))
    refine (ex_22 rfl (ex_6_0 (ix_41r (r := some 139) (b_sh (j := 57) h rfl (by decide) rfl) (b_pt h (by decide) (by decide) (by decide +kernel)) (b_44 h (ci := 4) (f := 5) (q := 157) (n2 := 94) (sl2 := 1053) rfl rfl rfl rfl rfl (fun G I P h => ?_)))))
    refine (ex_22 rfl ?_)
    obtain ⟨G, I, P, e_, h_, hs_⟩ := b_c17 (d := d + 1) h
    refine (ix_46 (S' := [(.inr (.inr (some 157))), (.inr (.inr (some 139))), (.inr (.inr (some 156))), (.inr (.inr (some 156))), (.inr (.inr (some 121)))]) rfl hs_ e_ rfl rfl ?_)
    clear hs_ e_
    skip
    have h := h_
    refine (ex_6_1 ?_)
    obtain ⟨G, I, P, e_, h_, hs_⟩ := b_c18 (d := d + 1) h
    refine (ix_46 (S' := [(.inr (.inr (some 156))), (.inr (.inr (some 121)))]) rfl hs_ e_ rfl rfl ?_)
    clear hs_ e_
    skip
    have h := h_
    refine (b_42r h (q := 121) (k := 3) (r := 156) (p2 := 103) (b_sh (j := 57) h rfl (by decide) rfl) rfl (by decide) (by decide) rfl (fun P h => ?_))
    exact ex_56 ⟨_, _, _, rfl, h⟩
  obtain ⟨o, e, G1, I1, P1, rfl, h1⟩ := am_doQ (as := [(.inr (.inr (some 121))), (.inr (.inr (some 88)))]) (Nat.le_of_ble_eq_true rfl) rfl w
  exact ⟨G1, I1, P1, e, h1, hs0⟩
theorem b_c20 {d L : Nat} {xs : Nat → Int32} {G : am_G} {I : Nat → Nat → Int} {P : Nat → Nat → Option Nat} (h : AS L xs 99 104 17 1114 G I P) : ∃ G1 I1 P1, am_call am_B am_M (d + 1) 89 [(.inr (.inr (some 162))), (.inl 12), (.inl 436)] (G, I, P) = some (none, (G1, I1, P1)) ∧ AS L xs 105 110 17 1610 G1 I1 P1 ∧ G.2.2 162 = .inr 9 := by
  have hs0 : G.2.2 162 = .inr 9 := b_sh (j := 98) h rfl (by decide) rfl
  have w : am_ex (am_call am_B am_M (d + 0)) (am_B 89) (am_B 89 0) [some (.inr (.inr (some 162))), some (.inl 12), some (.inl 436)] [] (G, I, P) (fun o => ∃ G1 I1 P1, o = (none, (G1, I1, P1)) ∧ AS L xs 105 110 17 1610 G1 I1 P1) := by
    clear hs0
    refine (ex_6_0 (ex_47 rfl (ex_6_0 (ex_4_1 (b_39 h (f := 12) (q := 163) (n2 := 100) (sl2 := 1126) ⟨by decide, by decide⟩ rfl rfl rfl rfl rfl (fun G I P h => ?_))))))
    refine (b_42r h (q := 162) (k := 0) (r := 163) (p2 := 105) (b_sh (j := 98) h rfl (by decide) rfl) rfl (by decide) (by decide) rfl (fun P h => ?_))
    refine (ex_6_0 (ex_4_1 (b_39 h (f := 12) (q := 164) (n2 := 101) (sl2 := 1138) ⟨by decide, by decide⟩ rfl rfl rfl rfl rfl (fun G I P h => ?_))))
    refine (b_42r h (q := 162) (k := 1) (r := 164) (p2 := 106) (b_sh (j := 98) h rfl (by decide) rfl) rfl (by decide) (by decide) rfl (fun P h => ?_))
    refine (ex_6_0 (ex_4_1 (b_39 h (f := 12) (q := 165) (n2 := 102) (sl2 := 1150) ⟨by decide, by decide⟩ rfl rfl rfl rfl rfl (fun G I P h => ?_))))
    refine (b_42r h (q := 162) (k := 2) (r := 165) (p2 := 107) (b_sh (j := 98) h rfl (by decide) rfl) rfl (by decide) (by decide) rfl (fun P h => ?_))
    refine (ex_6_0 (ex_4_1 (b_39 h (f := 12) (q := 166) (n2 := 103) (sl2 := 1162) ⟨by decide, by decide⟩ rfl rfl rfl rfl rfl (fun G I P h => ?_))))
    refine (b_42r h (q := 162) (k := 3) (r := 166) (p2 := 108) (b_sh (j := 98) h rfl (by decide) rfl) rfl (by decide) (by decide) rfl (fun P h => ?_))
    refine (ex_6_0 (ex_4_1 (b_39 h (f := 12) (q := 167) (n2 := 104) (sl2 := 1174) ⟨by decide, by decide⟩ rfl rfl rfl rfl rfl (fun G I P h => ?_))))
    refine (b_42r h (q := 162) (k := 4) (r := 167) (p2 := 109) (b_sh (j := 98) h rfl (by decide) rfl) rfl (by decide) (by decide) rfl (fun P h => ?_))
    refine (ex_6_0 (ex_4_2 (b_39 h (f := 436) (q := 168) (n2 := 105) (sl2 := 1610) ⟨by decide, by decide⟩ rfl rfl rfl rfl rfl (fun G I P h => ?_))))
    refine (b_42r h (q := 162) (k := 6) (r := 168) (p2 := 110) (b_sh (j := 98) h rfl (by decide) rfl) rfl (by decide) (by decide) rfl (fun P h => ?_))
    exact ex_56 ⟨_, _, _, rfl, h⟩
  obtain ⟨o, e, G1, I1, P1, rfl, h1⟩ := am_doQ (as := [(.inr (.inr (some 162))), (.inl 12), (.inl 436)]) (Nat.le_of_ble_eq_true rfl) rfl w
  exact ⟨G1, I1, P1, e, h1, hs0⟩
theorem b_c21 {d L : Nat} {xs : Nat → Int32} {G : am_G} {I : Nat → Nat → Int} {P : Nat → Nat → Option Nat} (h : AS L xs 106 111 17 1615 G I P) : ∃ G1 I1 P1, am_call am_B am_M (d + 1) 98 [(.inr (.inr (some 169)))] (G, I, P) = some (none, (G1, I1, P1)) ∧ AS L xs 107 112 17 1615 G1 I1 P1 ∧ G.2.2 169 = .inr 10 := by
  have hs0 : G.2.2 169 = .inr 10 := b_sh (j := 105) h rfl (by decide) rfl
  have w : am_ex (am_call am_B am_M (d + 0)) (am_B 98) (am_B 98 0) [some (.inr (.inr (some 169)))] [] (G, I, P) (fun o => ∃ G1 I1 P1, o = (none, (G1, I1, P1)) ∧ AS L xs 107 112 17 1615 G1 I1 P1) := by
    clear hs0
    refine (ex_6_0 (ex_47 rfl (ex_6_0 (ex_0 (b_39 h (f := 0) (q := 170) (n2 := 107) (sl2 := 1615) ⟨by decide, by decide⟩ rfl rfl rfl rfl rfl (fun G I P h => ?_))))))
    refine (b_42r h (q := 169) (k := 0) (r := 170) (p2 := 112) (b_sh (j := 105) h rfl (by decide) rfl) rfl (by decide) (by decide) rfl (fun P h => ?_))
    exact ex_56 ⟨_, _, _, rfl, h⟩
  obtain ⟨o, e, G1, I1, P1, rfl, h1⟩ := am_doQ (as := [(.inr (.inr (some 169)))]) (Nat.le_of_ble_eq_true rfl) rfl w
  exact ⟨G1, I1, P1, e, h1, hs0⟩
theorem b_c19 {d L : Nat} {xs : Nat → Int32} {G : am_G} {I : Nat → Nat → Int} {P : Nat → Nat → Option Nat} (h : AS L xs 98 104 17 1106 G I P) : ∃ G1 I1 P1, am_call am_B am_M (d + 2) 61 [(.inr (.inr (some 161)))] (G, I, P) = some (none, (G1, I1, P1)) ∧ AS L xs 107 113 17 1615 G1 I1 P1 ∧ G.2.2 161 = .inr 7 := by
  have hs0 : G.2.2 161 = .inr 7 := b_sh (j := 97) h rfl (by decide) rfl
  have w : am_ex (am_call am_B am_M (d + 1)) (am_B 61) (am_B 61 0) [some (.inr (.inr (some 161)))] [] (G, I, P) (fun o => ∃ G1 I1 P1, o = (none, (G1, I1, P1)) ∧ AS L xs 107 113 17 1615 G1 I1 P1) := by
    clear hs0
    refine (ex_6_0 (ex_47 rfl (ex_6_0 (b_44 h (ci := 9) (f := 8) (q := 162) (n2 := 99) (sl2 := 1114) rfl rfl rfl rfl rfl (fun G I P h => ?_)))))
    refine (ex_22 rfl (ex_0 (ex_0 ?_)))
    obtain ⟨G, I, P, e_, h_, hs_⟩ := b_c20 (d := d) h
    refine (ix_46 (S' := [(.inr (.inr (some 162))), (.inr (.inr (some 161)))]) rfl hs_ e_ rfl rfl ?_)
    clear hs_ e_
    skip
    have h := h_
    refine (b_42r h (q := 161) (k := 0) (r := 162) (p2 := 111) (b_sh (j := 97) h rfl (by decide) rfl) rfl (by decide) (by decide) rfl (fun P h => ?_))
    refine (ex_6_0 (b_44 h (ci := 10) (f := 5) (q := 169) (n2 := 106) (sl2 := 1615) rfl rfl rfl rfl rfl (fun G I P h => ?_)))
    refine (ex_22 rfl ?_)
    obtain ⟨G, I, P, e_, h_, hs_⟩ := b_c21 (d := d) h
    refine (ix_46 (S' := [(.inr (.inr (some 169))), (.inr (.inr (some 161)))]) rfl hs_ e_ rfl rfl ?_)
    clear hs_ e_
    skip
    have h := h_
    refine (b_42r h (q := 161) (k := 1) (r := 169) (p2 := 113) (b_sh (j := 97) h rfl (by decide) rfl) rfl (by decide) (by decide) rfl (fun P h => ?_))
    exact ex_56 ⟨_, _, _, rfl, h⟩
  obtain ⟨o, e, G1, I1, P1, rfl, h1⟩ := am_doQ (as := [(.inr (.inr (some 161)))]) (Nat.le_of_ble_eq_true rfl) rfl w
  exact ⟨G1, I1, P1, e, h1, hs0⟩
theorem b_c23 {d L : Nat} {xs : Nat → Int32} {G : am_G} {I : Nat → Nat → Int} {P : Nat → Nat → Option Nat} (h : AS L xs 112 117 18 2064 G I P) : ∃ G1 I1 P1, am_call am_B am_M (d + 1) 74 [(.inr (.inr (some 175)))] (G, I, P) = some (none, (G1, I1, P1)) ∧ AS L xs 115 120 18 2112 G1 I1 P1 ∧ G.2.2 175 = .inr 8 := by
  have hs0 : G.2.2 175 = .inr 8 := b_sh (j := 111) h rfl (by decide) rfl
  have w : am_ex (am_call am_B am_M (d + 0)) (am_B 74) (am_B 74 0) [some (.inr (.inr (some 175)))] [] (G, I, P) (fun o => ∃ G1 I1 P1, o = (none, (G1, I1, P1)) ∧ AS L xs 115 120 18 2112 G1 I1 P1) := by
    clear hs0
    refine (ex_6_0 (ex_47 rfl (ex_6_0 (ex_0 (b_39 h (f := 36) (q := 176) (n2 := 113) (sl2 := 2100) ⟨by decide, by decide⟩ rfl rfl rfl rfl rfl (fun G I P h => ?_))))))
    refine (b_42r h (q := 175) (k := 0) (r := 176) (p2 := 118) (b_sh (j := 111) h rfl (by decide) rfl) rfl (by decide) (by decide) rfl (fun P h => ?_))
    refine (ex_6_0 (ex_0 (b_39 h (f := 6) (q := 177) (n2 := 114) (sl2 := 2106) ⟨by decide, by decide⟩ rfl rfl rfl rfl rfl (fun G I P h => ?_))))
    refine (b_42r h (q := 175) (k := 1) (r := 177) (p2 := 119) (b_sh (j := 111) h rfl (by decide) rfl) rfl (by decide) (by decide) rfl (fun P h => ?_))
    refine (ex_6_0 (ex_0 (b_39 h (f := 6) (q := 178) (n2 := 115) (sl2 := 2112) ⟨by decide, by decide⟩ rfl rfl rfl rfl rfl (fun G I P h => ?_))))
    refine (b_42r h (q := 175) (k := 2) (r := 178) (p2 := 120) (b_sh (j := 111) h rfl (by decide) rfl) rfl (by decide) (by decide) rfl (fun P h => ?_))
    exact ex_56 ⟨_, _, _, rfl, h⟩
  obtain ⟨o, e, G1, I1, P1, rfl, h1⟩ := am_doQ (as := [(.inr (.inr (some 175)))]) (Nat.le_of_ble_eq_true rfl) rfl w
  exact ⟨G1, I1, P1, e, h1, hs0⟩
theorem b_c22 {d L : Nat} {xs : Nat → Int32} {G : am_G} {I : Nat → Nat → Int} {P : Nat → Nat → Option Nat} (h : AS L xs 111 117 18 2060 G I P) : ∃ G1 I1 P1, am_call am_B am_M (d + 2) 10 [(.inr (.inr (some 174)))] (G, I, P) = some (none, (G1, I1, P1)) ∧ AS L xs 127 133 22 2176 G1 I1 P1 ∧ G.2.2 174 = .inr 1 := by
  have hs0 : G.2.2 174 = .inr 1 := b_sh (j := 110) h rfl (by decide) rfl
  have w : am_ex (am_call am_B am_M (d + 1)) (am_B 10) (am_B 10 0) [some (.inr (.inr (some 174)))] [] (G, I, P) (fun o => ∃ G1 I1 P1, o = (none, (G1, I1, P1)) ∧ AS L xs 127 133 22 2176 G1 I1 P1) := by
    clear hs0
    refine (ex_6_0 (ex_47 rfl (ex_6_0 (b_44 h (ci := 8) (f := 4) (q := 175) (n2 := 112) (sl2 := 2064) rfl rfl rfl rfl rfl (fun G I P h => ?_)))))
    refine (ex_22 rfl ?_)
    obtain ⟨G, I, P, e_, h_, hs_⟩ := b_c23 (d := d) h
    refine (ix_46 (S' := [(.inr (.inr (some 175))), (.inr (.inr (some 174)))]) rfl hs_ e_ rfl rfl ?_)
    clear hs_ e_
    skip
    have h := h_
    refine (b_42r h (q := 174) (k := 0) (r := 175) (p2 := 121) (b_sh (j := 110) h rfl (by decide) rfl) rfl (by decide) (by decide) rfl (fun P h => ?_))
    refine (ex_6_0 (ex_0 (b_39 h (f := 6) (q := 179) (n2 := 116) (sl2 := 2118) ⟨by decide, by decide⟩ rfl rfl rfl rfl rfl (fun G I P h => ?_))))
    refine (b_42r h (q := 174) (k := 1) (r := 179) (p2 := 122) (b_sh (j := 110) h rfl (by decide) rfl) rfl (by decide) (by decide) rfl (fun P h => ?_))
    refine (ex_6_0 (ex_0 (b_39 h (f := 6) (q := 180) (n2 := 117) (sl2 := 2124) ⟨by decide, by decide⟩ rfl rfl rfl rfl rfl (fun G I P h => ?_))))
    refine (b_42r h (q := 174) (k := 2) (r := 180) (p2 := 123) (b_sh (j := 110) h rfl (by decide) rfl) rfl (by decide) (by decide) rfl (fun P h => ?_))
    refine (ex_6_0 (ex_0 (b_39 h (f := 6) (q := 181) (n2 := 118) (sl2 := 2130) ⟨by decide, by decide⟩ rfl rfl rfl rfl rfl (fun G I P h => ?_))))
    refine (b_42r h (q := 174) (k := 3) (r := 181) (p2 := 124) (b_sh (j := 110) h rfl (by decide) rfl) rfl (by decide) (by decide) rfl (fun P h => ?_))
    refine (ex_6_0 (ex_0 (b_39 h (f := 5) (q := 182) (n2 := 119) (sl2 := 2135) ⟨by decide, by decide⟩ rfl rfl rfl rfl rfl (fun G I P h => ?_))))
    refine (b_42r h (q := 174) (k := 5) (r := 182) (p2 := 125) (b_sh (j := 110) h rfl (by decide) rfl) rfl (by decide) (by decide) rfl (fun P h => ?_))
    refine (ex_6_0 (ex_0 (b_39 h (f := 5) (q := 183) (n2 := 120) (sl2 := 2140) ⟨by decide, by decide⟩ rfl rfl rfl rfl rfl (fun G I P h => ?_))))
    refine (b_42r h (q := 174) (k := 6) (r := 183) (p2 := 126) (b_sh (j := 110) h rfl (by decide) rfl) rfl (by decide) (by decide) rfl (fun P h => ?_))
    refine (ex_6_0 (ex_0 (b_39 h (f := 5) (q := 184) (n2 := 121) (sl2 := 2145) ⟨by decide, by decide⟩ rfl rfl rfl rfl rfl (fun G I P h => ?_))))
    refine (b_42r h (q := 174) (k := 7) (r := 184) (p2 := 127) (b_sh (j := 110) h rfl (by decide) rfl) rfl (by decide) (by decide) rfl (fun P h => ?_))
    refine (ex_6_0 (ex_0 (b_39 h (f := 5) (q := 185) (n2 := 122) (sl2 := 2150) ⟨by decide, by decide⟩ rfl rfl rfl rfl rfl (fun G I P h => ?_))))
    refine (b_42r h (q := 174) (k := 8) (r := 185) (p2 := 128) (b_sh (j := 110) h rfl (by decide) rfl) rfl (by decide) (by decide) rfl (fun P h => ?_))
    refine (ex_6_0 (ex_0 (b_39 h (f := 5) (q := 186) (n2 := 123) (sl2 := 2155) ⟨by decide, by decide⟩ rfl rfl rfl rfl rfl (fun G I P h => ?_))))
    refine (b_42r h (q := 174) (k := 9) (r := 186) (p2 := 129) (b_sh (j := 110) h rfl (by decide) rfl) rfl (by decide) (by decide) rfl (fun P h => ?_))
    refine (ex_6_0 (ex_0 (b_39 h (f := 6) (q := 187) (n2 := 124) (sl2 := 2161) ⟨by decide, by decide⟩ rfl rfl rfl rfl rfl (fun G I P h => ?_))))
    refine (b_42r h (q := 174) (k := 11) (r := 187) (p2 := 130) (b_sh (j := 110) h rfl (by decide) rfl) rfl (by decide) (by decide) rfl (fun P h => ?_))
    refine (ex_6_0 (ex_0 (b_39 h (f := 6) (q := 188) (n2 := 125) (sl2 := 2167) ⟨by decide, by decide⟩ rfl rfl rfl rfl rfl (fun G I P h => ?_))))
    refine (b_42r h (q := 174) (k := 12) (r := 188) (p2 := 131) (b_sh (j := 110) h rfl (by decide) rfl) rfl (by decide) (by decide) rfl (fun P h => ?_))
    refine (ex_6_0 (ex_0 (b_39 h (f := 3) (q := 189) (n2 := 126) (sl2 := 2170) ⟨by decide, by decide⟩ rfl rfl rfl rfl rfl (fun G I P h => ?_))))
    refine (ex_22 rfl (ex_0 (ex_0 (b_34 h (q := 189) (k := 0) (v := 0) (i2 := 19) (b_sh (j := 125) h rfl (by decide) rfl) (by decide) (by decide) rfl rfl (by decide) (by decide) rfl (fun I h => ?_)))))
    refine (ex_22 rfl (ex_0 (ex_0 (b_34 h (q := 189) (k := 1) (v := 1) (i2 := 20) (b_sh (j := 125) h rfl (by decide) rfl) (by decide) (by decide) rfl rfl (by decide) (by decide) rfl (fun I h => ?_)))))
    refine (ex_22 rfl (ex_0 (ex_0 (b_34 h (q := 189) (k := 2) (v := 0) (i2 := 21) (b_sh (j := 125) h rfl (by decide) rfl) (by decide) (by decide) rfl rfl (by decide) (by decide) rfl (fun I h => ?_)))))
    refine (b_42r h (q := 174) (k := 14) (r := 189) (p2 := 132) (b_sh (j := 110) h rfl (by decide) rfl) rfl (by decide) (by decide) rfl (fun P h => ?_))
    refine (ex_6_0 (ex_0 (b_39 h (f := 6) (q := 190) (n2 := 127) (sl2 := 2176) ⟨by decide, by decide⟩ rfl rfl rfl rfl rfl (fun G I P h => ?_))))
    refine (b_42r h (q := 174) (k := 15) (r := 190) (p2 := 133) (b_sh (j := 110) h rfl (by decide) rfl) rfl (by decide) (by decide) rfl (fun P h => ?_))
    refine (ex_6_0 (ex_0 (b_42i h (q := 174) (k := 17) (v := (-1)) (i2 := 22) (b_sh (j := 110) h rfl (by decide) rfl) rfl (by decide) (by decide) rfl (fun I h => ?_))))
    exact ex_56 ⟨_, _, _, rfl, h⟩
  obtain ⟨o, e, G1, I1, P1, rfl, h1⟩ := am_doQ (as := [(.inr (.inr (some 174)))]) (Nat.le_of_ble_eq_true rfl) rfl w
  exact ⟨G1, I1, P1, e, h1, hs0⟩
theorem b_c25 {d L : Nat} {xs : Nat → Int32} {G : am_G} {I : Nat → Nat → Int} {P : Nat → Nat → Option Nat} (h : AS L xs 129 134 22 2198 G I P) : ∃ G1 I1 P1, am_call am_B am_M (d + 1) 74 [(.inr (.inr (some 192)))] (G, I, P) = some (none, (G1, I1, P1)) ∧ AS L xs 132 137 22 2246 G1 I1 P1 ∧ G.2.2 192 = .inr 8 := by
  have hs0 : G.2.2 192 = .inr 8 := b_sh (j := 128) h rfl (by decide) rfl
  have w : am_ex (am_call am_B am_M (d + 0)) (am_B 74) (am_B 74 0) [some (.inr (.inr (some 192)))] [] (G, I, P) (fun o => ∃ G1 I1 P1, o = (none, (G1, I1, P1)) ∧ AS L xs 132 137 22 2246 G1 I1 P1) := by
    clear hs0
    refine (ex_6_0 (ex_47 rfl (ex_6_0 (ex_0 (b_39 h (f := 36) (q := 193) (n2 := 130) (sl2 := 2234) ⟨by decide, by decide⟩ rfl rfl rfl rfl rfl (fun G I P h => ?_))))))
    refine (b_42r h (q := 192) (k := 0) (r := 193) (p2 := 135) (b_sh (j := 128) h rfl (by decide) rfl) rfl (by decide) (by decide) rfl (fun P h => ?_))
    refine (ex_6_0 (ex_0 (b_39 h (f := 6) (q := 194) (n2 := 131) (sl2 := 2240) ⟨by decide, by decide⟩ rfl rfl rfl rfl rfl (fun G I P h => ?_))))
    refine (b_42r h (q := 192) (k := 1) (r := 194) (p2 := 136) (b_sh (j := 128) h rfl (by decide) rfl) rfl (by decide) (by decide) rfl (fun P h => ?_))
    refine (ex_6_0 (ex_0 (b_39 h (f := 6) (q := 195) (n2 := 132) (sl2 := 2246) ⟨by decide, by decide⟩ rfl rfl rfl rfl rfl (fun G I P h => ?_))))
    refine (b_42r h (q := 192) (k := 2) (r := 195) (p2 := 137) (b_sh (j := 128) h rfl (by decide) rfl) rfl (by decide) (by decide) rfl (fun P h => ?_))
    exact ex_56 ⟨_, _, _, rfl, h⟩
  obtain ⟨o, e, G1, I1, P1, rfl, h1⟩ := am_doQ (as := [(.inr (.inr (some 192)))]) (Nat.le_of_ble_eq_true rfl) rfl w
  exact ⟨G1, I1, P1, e, h1, hs0⟩
theorem b_c24 {d L : Nat} {xs : Nat → Int32} {G : am_G} {I : Nat → Nat → Int} {P : Nat → Nat → Option Nat} (h : AS L xs 128 134 22 2194 G I P) : ∃ G1 I1 P1, am_call am_B am_M (d + 2) 10 [(.inr (.inr (some 191)))] (G, I, P) = some (none, (G1, I1, P1)) ∧ AS L xs 144 150 26 2310 G1 I1 P1 ∧ G.2.2 191 = .inr 1 := by
  have hs0 : G.2.2 191 = .inr 1 := b_sh (j := 127) h rfl (by decide) rfl
  have w : am_ex (am_call am_B am_M (d + 1)) (am_B 10) (am_B 10 0) [some (.inr (.inr (some 191)))] [] (G, I, P) (fun o => ∃ G1 I1 P1, o = (none, (G1, I1, P1)) ∧ AS L xs 144 150 26 2310 G1 I1 P1) := by
    clear hs0
    refine (ex_6_0 (ex_47 rfl (ex_6_0 (b_44 h (ci := 8) (f := 4) (q := 192) (n2 := 129) (sl2 := 2198) rfl rfl rfl rfl rfl (fun G I P h => ?_)))))
    refine (ex_22 rfl ?_)
    obtain ⟨G, I, P, e_, h_, hs_⟩ := b_c25 (d := d) h
    refine (ix_46 (S' := [(.inr (.inr (some 192))), (.inr (.inr (some 191)))]) rfl hs_ e_ rfl rfl ?_)
    clear hs_ e_
    skip
    have h := h_
    refine (b_42r h (q := 191) (k := 0) (r := 192) (p2 := 138) (b_sh (j := 127) h rfl (by decide) rfl) rfl (by decide) (by decide) rfl (fun P h => ?_))
    refine (ex_6_0 (ex_0 (b_39 h (f := 6) (q := 196) (n2 := 133) (sl2 := 2252) ⟨by decide, by decide⟩ rfl rfl rfl rfl rfl (fun G I P h => ?_))))
    refine (b_42r h (q := 191) (k := 1) (r := 196) (p2 := 139) (b_sh (j := 127) h rfl (by decide) rfl) rfl (by decide) (by decide) rfl (fun P h => ?_))
    refine (ex_6_0 (ex_0 (b_39 h (f := 6) (q := 197) (n2 := 134) (sl2 := 2258) ⟨by decide, by decide⟩ rfl rfl rfl rfl rfl (fun G I P h => ?_))))
    refine (b_42r h (q := 191) (k := 2) (r := 197) (p2 := 140) (b_sh (j := 127) h rfl (by decide) rfl) rfl (by decide) (by decide) rfl (fun P h => ?_))
    refine (ex_6_0 (ex_0 (b_39 h (f := 6) (q := 198) (n2 := 135) (sl2 := 2264) ⟨by decide, by decide⟩ rfl rfl rfl rfl rfl (fun G I P h => ?_))))
    refine (b_42r h (q := 191) (k := 3) (r := 198) (p2 := 141) (b_sh (j := 127) h rfl (by decide) rfl) rfl (by decide) (by decide) rfl (fun P h => ?_))
    refine (ex_6_0 (ex_0 (b_39 h (f := 5) (q := 199) (n2 := 136) (sl2 := 2269) ⟨by decide, by decide⟩ rfl rfl rfl rfl rfl (fun G I P h => ?_))))
    refine (b_42r h (q := 191) (k := 5) (r := 199) (p2 := 142) (b_sh (j := 127) h rfl (by decide) rfl) rfl (by decide) (by decide) rfl (fun P h => ?_))
    refine (ex_6_0 (ex_0 (b_39 h (f := 5) (q := 200) (n2 := 137) (sl2 := 2274) ⟨by decide, by decide⟩ rfl rfl rfl rfl rfl (fun G I P h => ?_))))
    refine (b_42r h (q := 191) (k := 6) (r := 200) (p2 := 143) (b_sh (j := 127) h rfl (by decide) rfl) rfl (by decide) (by decide) rfl (fun P h => ?_))
    refine (ex_6_0 (ex_0 (b_39 h (f := 5) (q := 201) (n2 := 138) (sl2 := 2279) ⟨by decide, by decide⟩ rfl rfl rfl rfl rfl (fun G I P h => ?_))))
    refine (b_42r h (q := 191) (k := 7) (r := 201) (p2 := 144) (b_sh (j := 127) h rfl (by decide) rfl) rfl (by decide) (by decide) rfl (fun P h => ?_))
    refine (ex_6_0 (ex_0 (b_39 h (f := 5) (q := 202) (n2 := 139) (sl2 := 2284) ⟨by decide, by decide⟩ rfl rfl rfl rfl rfl (fun G I P h => ?_))))
    refine (b_42r h (q := 191) (k := 8) (r := 202) (p2 := 145) (b_sh (j := 127) h rfl (by decide) rfl) rfl (by decide) (by decide) rfl (fun P h => ?_))
    refine (ex_6_0 (ex_0 (b_39 h (f := 5) (q := 203) (n2 := 140) (sl2 := 2289) ⟨by decide, by decide⟩ rfl rfl rfl rfl rfl (fun G I P h => ?_))))
    refine (b_42r h (q := 191) (k := 9) (r := 203) (p2 := 146) (b_sh (j := 127) h rfl (by decide) rfl) rfl (by decide) (by decide) rfl (fun P h => ?_))
    refine (ex_6_0 (ex_0 (b_39 h (f := 6) (q := 204) (n2 := 141) (sl2 := 2295) ⟨by decide, by decide⟩ rfl rfl rfl rfl rfl (fun G I P h => ?_))))
    refine (b_42r h (q := 191) (k := 11) (r := 204) (p2 := 147) (b_sh (j := 127) h rfl (by decide) rfl) rfl (by decide) (by decide) rfl (fun P h => ?_))
    refine (ex_6_0 (ex_0 (b_39 h (f := 6) (q := 205) (n2 := 142) (sl2 := 2301) ⟨by decide, by decide⟩ rfl rfl rfl rfl rfl (fun G I P h => ?_))))
    refine (b_42r h (q := 191) (k := 12) (r := 205) (p2 := 148) (b_sh (j := 127) h rfl (by decide) rfl) rfl (by decide) (by decide) rfl (fun P h => ?_))
    refine (ex_6_0 (ex_0 (b_39 h (f := 3) (q := 206) (n2 := 143) (sl2 := 2304) ⟨by decide, by decide⟩ rfl rfl rfl rfl rfl (fun G I P h => ?_))))
    refine (ex_22 rfl (ex_0 (ex_0 (b_34 h (q := 206) (k := 0) (v := 0) (i2 := 23) (b_sh (j := 142) h rfl (by decide) rfl) (by decide) (by decide) rfl rfl (by decide) (by decide) rfl (fun I h => ?_)))))
    refine (ex_22 rfl (ex_0 (ex_0 (b_34 h (q := 206) (k := 1) (v := 1) (i2 := 24) (b_sh (j := 142) h rfl (by decide) rfl) (by decide) (by decide) rfl rfl (by decide) (by decide) rfl (fun I h => ?_)))))
    refine (ex_22 rfl (ex_0 (ex_0 (b_34 h (q := 206) (k := 2) (v := 0) (i2 := 25) (b_sh (j := 142) h rfl (by decide) rfl) (by decide) (by decide) rfl rfl (by decide) (by decide) rfl (fun I h => ?_)))))
    refine (b_42r h (q := 191) (k := 14) (r := 206) (p2 := 149) (b_sh (j := 127) h rfl (by decide) rfl) rfl (by decide) (by decide) rfl (fun P h => ?_))
    refine (ex_6_0 (ex_0 (b_39 h (f := 6) (q := 207) (n2 := 144) (sl2 := 2310) ⟨by decide, by decide⟩ rfl rfl rfl rfl rfl (fun G I P h => ?_))))
    refine (b_42r h (q := 191) (k := 15) (r := 207) (p2 := 150) (b_sh (j := 127) h rfl (by decide) rfl) rfl (by decide) (by decide) rfl (fun P h => ?_))
    refine (ex_6_0 (ex_0 (b_42i h (q := 191) (k := 17) (v := (-1)) (i2 := 26) (b_sh (j := 127) h rfl (by decide) rfl) rfl (by decide) (by decide) rfl (fun I h => ?_))))
    exact ex_56 ⟨_, _, _, rfl, h⟩
  obtain ⟨o, e, G1, I1, P1, rfl, h1⟩ := am_doQ (as := [(.inr (.inr (some 191)))]) (Nat.le_of_ble_eq_true rfl) rfl w
  exact ⟨G1, I1, P1, e, h1, hs0⟩
theorem b_c1 {d L : Nat} {xs : Nat → Int32} {G : am_G} {I : Nat → Nat → Int} {P : Nat → Nat → Option Nat} (h : AS L xs 1 0 0 17 G I P) : ∃ G1 I1 P1, am_call am_B am_M (d + 4) 106 [(.inr (.inr (some 64)))] (G, I, P) = some (none, (G1, I1, P1)) ∧ AS L xs 144 151 26 2310 G1 I1 P1 ∧ G.2.2 64 = .inr 11 := by
  have hs0 : G.2.2 64 = .inr 11 := b_sh (j := 0) h rfl (by decide) rfl
  have w : am_ex (am_call am_B am_M (d + 3)) (am_B 106) (am_B 106 0) [some (.inr (.inr (some 64))), none] [] (G, I, P) (fun o => ∃ G1 I1 P1, o = (none, (G1, I1, P1)) ∧ AS L xs 144 151 26 2310 G1 I1 P1) := by
    clear hs0
    refine (ex_6_0 (ex_47 rfl (ex_6_0 (b_44 h (ci := 1) (f := 18) (q := 65) (n2 := 2) (sl2 := 35) rfl rfl rfl rfl rfl (fun G I P h => ?_)))))
    refine (ex_22 rfl ?_)
    obtain ⟨G, I, P, e_, h_, hs_⟩ := b_c2 (d := d + 1) h
    refine (ix_46 (S' := [(.inr (.inr (some 65))), (.inr (.inr (some 64)))]) rfl hs_ e_ rfl rfl ?_)
    clear hs_ e_
    skip
    have h := h_
    refine (b_42r h (q := 64) (k := 0) (r := 65) (p2 := 17) (b_sh (j := 0) h rfl (by decide) rfl) rfl (by decide) (by decide) rfl (fun P h => ?_))
    refine (ex_6_0 (ex_0 (b_39 h (f := 2) (q := 82) (n2 := 19) (sl2 := 153) ⟨by decide, by decide⟩ rfl rfl rfl rfl rfl (fun G I P h => ?_))))
    refine (b_42r h (q := 64) (k := 1) (r := 82) (p2 := 18) (b_sh (j := 0) h rfl (by decide) rfl) rfl (by decide) (by decide) rfl (fun P h => ?_))
    refine (ex_6_0 (ex_0 (b_39 h (f := 2) (q := 83) (n2 := 20) (sl2 := 155) ⟨by decide, by decide⟩ rfl rfl rfl rfl rfl (fun G I P h => ?_))))
    refine (b_42r h (q := 64) (k := 2) (r := 83) (p2 := 19) (b_sh (j := 0) h rfl (by decide) rfl) rfl (by decide) (by decide) rfl (fun P h => ?_))
    refine (ex_6_0 (b_44 h (ci := 4) (f := 5) (q := 84) (n2 := 21) (sl2 := 160) rfl rfl rfl rfl rfl (fun G I P h => ?_)))
    refine (ex_22 rfl ?_)
    obtain ⟨G, I, P, e_, h_, hs_⟩ := b_c4 (d := d + 2) h
    refine (ix_46 (S' := [(.inr (.inr (some 84))), (.inr (.inr (some 64)))]) rfl hs_ e_ rfl rfl ?_)
    clear hs_ e_
    skip
    have h := h_
    refine (b_42r h (q := 64) (k := 3) (r := 84) (p2 := 23) (b_sh (j := 0) h rfl (by decide) rfl) rfl (by decide) (by decide) rfl (fun P h => ?_))
    refine (ex_6_0 (b_44 h (ci := 3) (f := 2) (q := 88) (n2 := 25) (sl2 := 210) rfl rfl rfl rfl rfl (fun G I P h => ?_)))
    refine (ex_22 rfl ?_)
    obtain ⟨G, I, P, e_, h_, hs_⟩ := b_c5 (d := d + 2) h
    refine (ix_46 (S' := [(.inr (.inr (some 88))), (.inr (.inr (some 64)))]) rfl hs_ e_ rfl rfl ?_)
    clear hs_ e_
    skip
    have h := h_
    refine (b_42r h (q := 64) (k := 4) (r := 88) (p2 := 26) (b_sh (j := 0) h rfl (by decide) rfl) rfl (by decide) (by decide) rfl (fun P h => ?_))
    refine (ex_6_0 (b_44 h (ci := 2) (f := 3) (q := 91) (n2 := 28) (sl2 := 254) rfl rfl rfl rfl rfl (fun G I P h => ?_)))
    refine (ex_22 rfl (ex_6_0 (ix_41r (r := some 65) (b_sh (j := 0) h rfl (by decide) rfl) (b_pt h (by decide) (by decide) (by decide +kernel)) (ex_6_0 (ix_41r (r := some 84) (b_sh (j := 0) h rfl (by decide) rfl) (b_pt h (by decide) (by decide) (by decide +kernel)) (ex_6_0 (ix_41r (r := some 88) (b_sh (j := 0) h rfl (by decide) rfl) (b_pt h (by decide) (by decide) (by decide +kernel)) ?_)))))))
    obtain ⟨G, I, P, e_, h_, hs_⟩ := b_c6 (d := d + 2) h
    refine (ix_46 (S' := [(.inr (.inr (some 91))), (.inr (.inr (some 64)))]) rfl hs_ e_ rfl rfl ?_)
    clear hs_ e_
    skip
    have h := h_
    refine (b_42r h (q := 64) (k := 5) (r := 91) (p2 := 30) (b_sh (j := 0) h rfl (by decide) rfl) rfl (by decide) (by decide) rfl (fun P h => ?_))
    refine (ex_6_0 (b_44 h (ci := 5) (f := 8) (q := 92) (n2 := 29) (sl2 := 262) rfl rfl rfl rfl rfl (fun G I P h => ?_)))
    refine (ex_22 rfl (ex_6_0 (ix_41r (r := some 91) (b_sh (j := 0) h rfl (by decide) rfl) (b_pt h (by decide) (by decide) (by decide +kernel)) ?_)))
    obtain ⟨G, I, P, e_, h_, hs_⟩ := b_c7 (d := d) h
    refine (ix_46 (S' := [(.inr (.inr (some 92))), (.inr (.inr (some 64)))]) rfl hs_ e_ rfl rfl ?_)
    clear hs_ e_
    skip
    have h := h_
    refine (b_42r h (q := 64) (k := 6) (r := 92) (p2 := 55) (b_sh (j := 0) h rfl (by decide) rfl) rfl (by decide) (by decide) rfl (fun P h => ?_))
    refine (ex_6_0 (b_44 h (ci := 0) (f := 5) (q := 116) (n2 := 53) (sl2 := 502) rfl rfl rfl rfl rfl (fun G I P h => ?_)))
    refine (ex_22 rfl (ex_6_0 (ix_41r (r := some 88) (b_sh (j := 0) h rfl (by decide) rfl) (b_pt h (by decide) (by decide) (by decide +kernel)) ?_)))
    obtain ⟨G, I, P, e_, h_, hs_⟩ := b_c11 (d := d + 2) h
    refine (ix_46 (S' := [(.inr (.inr (some 116))), (.inr (.inr (some 64)))]) rfl hs_ e_ rfl rfl ?_)
    clear hs_ e_
    skip
    have h := h_
    refine (b_42r h (q := 64) (k := 7) (r := 116) (p2 := 61) (b_sh (j := 0) h rfl (by decide) rfl) rfl (by decide) (by decide) rfl (fun P h => ?_))
    refine (ex_6_0 (b_44 h (ci := 6) (f := 5) (q := 121) (n2 := 58) (sl2 := 777) rfl rfl rfl rfl rfl (fun G I P h => ?_)))
    refine (ex_22 rfl (ex_6_0 (ix_41r (r := some 88) (b_sh (j := 0) h rfl (by decide) rfl) (b_pt h (by decide) (by decide) (by decide +kernel)) ?_)))
    obtain ⟨G, I, P, e_, h_, hs_⟩ := b_c12 (d := d) h
    refine (ix_46 (S' := [(.inr (.inr (some 121))), (.inr (.inr (some 64)))]) rfl hs_ e_ rfl rfl ?_)
    clear hs_ e_
    skip
    have h := h_
    refine (b_42r h (q := 64) (k := 8) (r := 121) (p2 := 104) (b_sh (j := 0) h rfl (by decide) rfl) rfl (by decide) (by decide) rfl (fun P h => ?_))
    refine (ex_6_0 (b_44 h (ci := 7) (f := 5) (q := 161) (n2 := 98) (sl2 := 1106) rfl rfl rfl rfl rfl (fun G I P h => ?_)))
    refine (ex_22 rfl ?_)
    obtain ⟨G, I, P, e_, h_, hs_⟩ := b_c19 (d := d + 1) h
    refine (ix_46 (S' := [(.inr (.inr (some 161))), (.inr (.inr (some 64)))]) rfl hs_ e_ rfl rfl ?_)
    clear hs_ e_
    skip
    have h := h_
    refine (b_42r h (q := 64) (k := 9) (r := 161) (p2 := 114) (b_sh (j := 0) h rfl (by decide) rfl) rfl (by decide) (by decide) rfl (fun P h => ?_))
    refine (ex_6_0 (ex_0 (b_39 h (f := 400) (q := 171) (n2 := 108) (sl2 := 2015) ⟨by decide, by decide⟩ rfl rfl rfl rfl rfl (fun G I P h => ?_))))
    refine (b_42r h (q := 64) (k := 10) (r := 171) (p2 := 115) (b_sh (j := 0) h rfl (by decide) rfl) rfl (by decide) (by decide) rfl (fun P h => ?_))
    refine (ex_6_0 (ex_0 (b_39 h (f := 20) (q := 172) (n2 := 109) (sl2 := 2035) ⟨by decide, by decide⟩ rfl rfl rfl rfl rfl (fun G I P h => ?_))))
    refine (b_42r h (q := 64) (k := 11) (r := 172) (p2 := 116) (b_sh (j := 0) h rfl (by decide) rfl) rfl (by decide) (by decide) rfl (fun P h => ?_))
    refine (ex_6_0 (ex_0 (b_39 h (f := 7) (q := 173) (n2 := 110) (sl2 := 2042) ⟨by decide, by decide⟩ rfl rfl rfl rfl rfl (fun G I P h => ?_))))
    refine (b_42r h (q := 64) (k := 12) (r := 173) (p2 := 117) (b_sh (j := 0) h rfl (by decide) rfl) rfl (by decide) (by decide) rfl (fun P h => ?_))
    refine (ex_6_0 (ex_0 (b_42i h (q := 64) (k := 14) (v := (-1)) (i2 := 18) (b_sh (j := 0) h rfl (by decide) rfl) rfl (by decide) (by decide) rfl (fun I h => ?_))))
    refine (ex_0 (ex_7_1 rfl (ex_58 (ex_4_1 (ex_0 ?_)))))
    refine ex_ic3 (fun hc => by exfalso; revert hc; decide) (fun _ => ?_)
    refine (ex_6_0 (ix_41r (r := some 82) (b_sh (j := 0) h rfl (by decide) rfl) (b_pt h (by decide) (by decide) (by decide +kernel)) (ex_4_1 (b_44 h (ci := 1) (f := 18) (q := 174) (n2 := 111) (sl2 := 2060) rfl rfl rfl rfl rfl (fun G I P h => ?_)))))
    refine (ex_22 rfl ?_)
    obtain ⟨G, I, P, e_, h_, hs_⟩ := b_c22 (d := d + 1) h
    refine (ix_46 (S' := [(.inr (.inr (some 174))), (.inl 0), (.inr (.inr (some 82)))]) rfl hs_ e_ rfl rfl ?_)
    clear hs_ e_
    skip
    have h := h_
    refine (b_37 h (q := 82) (k := 0) (r := 174) (p2 := 134) (b_sh (j := 18) h rfl (by decide) rfl) (by decide) (by decide) rfl (b_sh (j := 110) h rfl (by decide) rfl) rfl (by decide) (by decide) rfl (fun P h => ?_))
    refine (ex_10_1 ⟨by omega, by omega⟩ rfl (ex_28 (ex_4_1 (ex_0 ?_))))
    refine ex_ic3 (fun hc => by exfalso; revert hc; decide) (fun _ => ?_)
    refine (ex_6_0 (ix_41r (r := some 82) (b_sh (j := 0) h rfl (by decide) rfl) (b_pt h (by decide) (by decide) (by decide +kernel)) (ex_4_1 (b_44 h (ci := 1) (f := 18) (q := 191) (n2 := 128) (sl2 := 2194) rfl rfl rfl rfl rfl (fun G I P h => ?_)))))
    refine (ex_22 rfl ?_)
    obtain ⟨G, I, P, e_, h_, hs_⟩ := b_c24 (d := d + 1) h
    refine (ix_46 (S' := [(.inr (.inr (some 191))), (.inl 1), (.inr (.inr (some 82)))]) rfl hs_ e_ rfl rfl ?_)
    clear hs_ e_
    skip
    have h := h_
    refine (b_37 h (q := 82) (k := 1) (r := 191) (p2 := 151) (b_sh (j := 18) h rfl (by decide) rfl) (by decide) (by decide) rfl (b_sh (j := 127) h rfl (by decide) rfl) rfl (by decide) (by decide) rfl (fun P h => ?_))
    refine (ex_10_1 ⟨by omega, by omega⟩ rfl (ex_28 (ex_4_1 (ex_0 ?_))))
    refine ex_ic3 (fun _ => ?_) (fun hc => by exfalso; revert hc; decide)
    exact ex_56 ⟨_, _, _, rfl, h⟩
  obtain ⟨o, e, G1, I1, P1, rfl, h1⟩ := am_doQ (as := [(.inr (.inr (some 64)))]) (Nat.le_of_ble_eq_true rfl) rfl w
  exact ⟨G1, I1, P1, e, h1, hs0⟩
theorem b_c26 {d L : Nat} {xs : Nat → Int32} {G : am_G} {I : Nat → Nat → Int} {P : Nat → Nat → Option Nat} (h : AS L xs 145 151 26 2369 G I P) : ∃ G1 I1 P1, am_call am_B am_M (d + 1) 160 [(.inr (.inr (some 208)))] (G, I, P) = some (none, (G1, I1, P1)) ∧ AS L xs 176 182 56 22742 G1 I1 P1 ∧ G.2.2 208 = .inr 12 := by
  have hs0 : G.2.2 208 = .inr 12 := b_sh (j := 144) h rfl (by decide) rfl
  have w : am_ex (am_call am_B am_M (d + 0)) (am_B 160) (am_B 160 0) [some (.inr (.inr (some 208)))] [] (G, I, P) (fun o => ∃ G1 I1 P1, o = (none, (G1, I1, P1)) ∧ AS L xs 176 182 56 22742 G1 I1 P1) := by
    clear hs0
    refine (ex_6_0 (ex_47 rfl (ex_6_0 (ex_0 (b_39 h (f := 7) (q := 209) (n2 := 146) (sl2 := 2376) ⟨by decide, by decide⟩ rfl rfl rfl rfl rfl (fun G I P h => ?_))))))
    refine (b_42r h (q := 208) (k := 2) (r := 209) (p2 := 152) (b_sh (j := 144) h rfl (by decide) rfl) rfl (by decide) (by decide) rfl (fun P h => ?_))
    refine (ex_6_0 (ex_0 (b_39 h (f := 5500) (q := 210) (n2 := 147) (sl2 := 7876) ⟨by decide, by decide⟩ rfl rfl rfl rfl rfl (fun G I P h => ?_))))
    refine (b_42r h (q := 208) (k := 3) (r := 210) (p2 := 153) (b_sh (j := 144) h rfl (by decide) rfl) rfl (by decide) (by decide) rfl (fun P h => ?_))
    refine (ex_6_0 (ex_0 (b_39 h (f := 11000) (q := 211) (n2 := 148) (sl2 := 18876) ⟨by decide, by decide⟩ rfl rfl rfl rfl rfl (fun G I P h => ?_))))
    refine (b_42r h (q := 208) (k := 4) (r := 211) (p2 := 154) (b_sh (j := 144) h rfl (by decide) rfl) rfl (by decide) (by decide) rfl (fun P h => ?_))
    refine (ex_6_0 (ex_0 (b_39 h (f := 2) (q := 212) (n2 := 149) (sl2 := 18878) ⟨by decide, by decide⟩ rfl rfl rfl rfl rfl (fun G I P h => ?_))))
    refine (b_42r h (q := 208) (k := 5) (r := 212) (p2 := 155) (b_sh (j := 144) h rfl (by decide) rfl) rfl (by decide) (by decide) rfl (fun P h => ?_))
    refine (ex_6_0 (ex_0 (b_39 h (f := 450) (q := 213) (n2 := 150) (sl2 := 19328) ⟨by decide, by decide⟩ rfl rfl rfl rfl rfl (fun G I P h => ?_))))
    refine (b_42r h (q := 208) (k := 6) (r := 213) (p2 := 156) (b_sh (j := 144) h rfl (by decide) rfl) rfl (by decide) (by decide) rfl (fun P h => ?_))
    refine (ex_6_0 (ex_0 (b_39 h (f := 16) (q := 214) (n2 := 151) (sl2 := 19344) ⟨by decide, by decide⟩ rfl rfl rfl rfl rfl (fun G I P h => ?_))))
    refine (b_42r h (q := 208) (k := 7) (r := 214) (p2 := 157) (b_sh (j := 144) h rfl (by decide) rfl) rfl (by decide) (by decide) rfl (fun P h => ?_))
    refine (ex_6_0 (ex_0 (b_39 h (f := 400) (q := 215) (n2 := 152) (sl2 := 19744) ⟨by decide, by decide⟩ rfl rfl rfl rfl rfl (fun G I P h => ?_))))
    refine (b_42r h (q := 208) (k := 9) (r := 215) (p2 := 158) (b_sh (j := 144) h rfl (by decide) rfl) rfl (by decide) (by decide) rfl (fun P h => ?_))
    refine (ex_6_0 (ex_0 (b_39 h (f := 16) (q := 216) (n2 := 153) (sl2 := 19760) ⟨by decide, by decide⟩ rfl rfl rfl rfl rfl (fun G I P h => ?_))))
    refine (b_42r h (q := 208) (k := 10) (r := 216) (p2 := 159) (b_sh (j := 144) h rfl (by decide) rfl) rfl (by decide) (by decide) rfl (fun P h => ?_))
    refine (ex_6_0 (ex_0 (b_39 h (f := 400) (q := 217) (n2 := 154) (sl2 := 20160) ⟨by decide, by decide⟩ rfl rfl rfl rfl rfl (fun G I P h => ?_))))
    refine (b_42r h (q := 208) (k := 12) (r := 217) (p2 := 160) (b_sh (j := 144) h rfl (by decide) rfl) rfl (by decide) (by decide) rfl (fun P h => ?_))
    refine (ex_6_0 (ex_0 (b_42i h (q := 208) (k := 18) (v := (-1)) (i2 := 27) (b_sh (j := 144) h rfl (by decide) rfl) rfl (by decide) (by decide) rfl (fun I h => ?_))))
    refine (ex_6_0 (ex_0 (b_39 h (f := 96) (q := 218) (n2 := 155) (sl2 := 20256) ⟨by decide, by decide⟩ rfl rfl rfl rfl rfl (fun G I P h => ?_))))
    refine (b_42r h (q := 208) (k := 22) (r := 218) (p2 := 161) (b_sh (j := 144) h rfl (by decide) rfl) rfl (by decide) (by decide) rfl (fun P h => ?_))
    refine (ex_6_0 (ex_0 (b_39 h (f := 400) (q := 219) (n2 := 156) (sl2 := 20656) ⟨by decide, by decide⟩ rfl rfl rfl rfl rfl (fun G I P h => ?_))))
    refine (b_42r h (q := 208) (k := 24) (r := 219) (p2 := 162) (b_sh (j := 144) h rfl (by decide) rfl) rfl (by decide) (by decide) rfl (fun P h => ?_))
    refine (ex_6_0 (ex_0 (b_39 h (f := 400) (q := 220) (n2 := 157) (sl2 := 21056) ⟨by decide, by decide⟩ rfl rfl rfl rfl rfl (fun G I P h => ?_))))
    refine (b_42r h (q := 208) (k := 25) (r := 220) (p2 := 163) (b_sh (j := 144) h rfl (by decide) rfl) rfl (by decide) (by decide) rfl (fun P h => ?_))
    refine (ex_6_0 (ex_0 (b_39 h (f := 400) (q := 221) (n2 := 158) (sl2 := 21456) ⟨by decide, by decide⟩ rfl rfl rfl rfl rfl (fun G I P h => ?_))))
    refine (b_42r h (q := 208) (k := 27) (r := 221) (p2 := 164) (b_sh (j := 144) h rfl (by decide) rfl) rfl (by decide) (by decide) rfl (fun P h => ?_))
    refine (ex_6_0 (ex_0 (b_39 h (f := 400) (q := 222) (n2 := 159) (sl2 := 21856) ⟨by decide, by decide⟩ rfl rfl rfl rfl rfl (fun G I P h => ?_))))
    refine (b_42r h (q := 208) (k := 28) (r := 222) (p2 := 165) (b_sh (j := 144) h rfl (by decide) rfl) rfl (by decide) (by decide) rfl (fun P h => ?_))
    refine (ex_6_0 (ex_0 (b_39 h (f := 9) (q := 223) (n2 := 160) (sl2 := 21865) ⟨by decide, by decide⟩ rfl rfl rfl rfl rfl (fun G I P h => ?_))))
    refine (ex_22 rfl (ex_0 (ex_1 (b_36 h (q := 223) (k := 0) (v := 3554980) (i2 := 28) (b_sh (j := 159) h rfl (by decide) rfl) (by decide) (by decide) rfl rfl (by decide) (by decide) rfl (fun I h => ?_)))))
    refine (ex_22 rfl (ex_0 (ex_1 (b_36 h (q := 223) (k := 1) (v := 370116) (i2 := 29) (b_sh (j := 159) h rfl (by decide) rfl) (by decide) (by decide) rfl rfl (by decide) (by decide) rfl (fun I h => ?_)))))
    refine (ex_22 rfl (ex_0 (ex_1 (b_36 h (q := 223) (k := 2) (v := 591077) (i2 := 30) (b_sh (j := 159) h rfl (by decide) rfl) (by decide) (by decide) rfl rfl (by decide) (by decide) rfl (fun I h => ?_)))))
    refine (ex_22 rfl (ex_0 (ex_1 (b_36 h (q := 223) (k := 3) (v := 2552) (i2 := 31) (b_sh (j := 159) h rfl (by decide) rfl) (by decide) (by decide) rfl rfl (by decide) (by decide) rfl (fun I h => ?_)))))
    refine (ex_22 rfl (ex_0 (ex_1 (b_36 h (q := 223) (k := 4) (v := 212363) (i2 := 32) (b_sh (j := 159) h rfl (by decide) rfl) (by decide) (by decide) rfl rfl (by decide) (by decide) rfl (fun I h => ?_)))))
    refine (ex_22 rfl (ex_0 (ex_1 (b_36 h (q := 223) (k := 5) (v := 12009203) (i2 := 33) (b_sh (j := 159) h rfl (by decide) rfl) (by decide) (by decide) rfl rfl (by decide) (by decide) rfl (fun I h => ?_)))))
    refine (ex_22 rfl (ex_0 (ex_1 (b_36 h (q := 223) (k := 6) (v := 23732) (i2 := 34) (b_sh (j := 159) h rfl (by decide) rfl) (by decide) (by decide) rfl rfl (by decide) (by decide) rfl (fun I h => ?_)))))
    refine (ex_22 rfl (ex_0 (ex_1 (b_36 h (q := 223) (k := 7) (v := 14982420) (i2 := 35) (b_sh (j := 159) h rfl (by decide) rfl) (by decide) (by decide) rfl rfl (by decide) (by decide) rfl (fun I h => ?_)))))
    refine (ex_22 rfl (ex_0 (ex_1 (b_36 h (q := 223) (k := 8) (v := 441828) (i2 := 36) (b_sh (j := 159) h rfl (by decide) rfl) (by decide) (by decide) rfl rfl (by decide) (by decide) rfl (fun I h => ?_)))))
    refine (b_42r h (q := 208) (k := 31) (r := 223) (p2 := 166) (b_sh (j := 144) h rfl (by decide) rfl) rfl (by decide) (by decide) rfl (fun P h => ?_))
    refine (ex_6_0 (ex_0 (b_39 h (f := 7) (q := 224) (n2 := 161) (sl2 := 21872) ⟨by decide, by decide⟩ rfl rfl rfl rfl rfl (fun G I P h => ?_))))
    refine (ex_22 rfl (ex_0 (ex_1 (b_36 h (q := 224) (k := 0) (v := 14982420) (i2 := 37) (b_sh (j := 160) h rfl (by decide) rfl) (by decide) (by decide) rfl rfl (by decide) (by decide) rfl (fun I h => ?_)))))
    refine (ex_22 rfl (ex_0 (ex_1 (b_36 h (q := 224) (k := 1) (v := 146885) (i2 := 38) (b_sh (j := 160) h rfl (by decide) rfl) (by decide) (by decide) rfl rfl (by decide) (by decide) rfl (fun I h => ?_)))))
    refine (ex_22 rfl (ex_0 (ex_1 (b_36 h (q := 224) (k := 2) (v := 404362868) (i2 := 39) (b_sh (j := 160) h rfl (by decide) rfl) (by decide) (by decide) rfl rfl (by decide) (by decide) rfl (fun I h => ?_)))))
    refine (ex_22 rfl (ex_0 (ex_1 (b_36 h (q := 224) (k := 3) (v := 407947732) (i2 := 40) (b_sh (j := 160) h rfl (by decide) rfl) (by decide) (by decide) rfl rfl (by decide) (by decide) rfl (fun I h => ?_)))))
    refine (ex_22 rfl (ex_0 (ex_1 (b_36 h (q := 224) (k := 4) (v := 653307044) (i2 := 41) (b_sh (j := 160) h rfl (by decide) rfl) (by decide) (by decide) rfl rfl (by decide) (by decide) rfl (fun I h => ?_)))))
    refine (ex_22 rfl (ex_0 (ex_1 (b_36 h (q := 224) (k := 5) (v := 52) (i2 := 42) (b_sh (j := 160) h rfl (by decide) rfl) (by decide) (by decide) rfl rfl (by decide) (by decide) rfl (fun I h => ?_)))))
    refine (ex_22 rfl (ex_0 (ex_1 (b_36 h (q := 224) (k := 6) (v := 87673) (i2 := 43) (b_sh (j := 160) h rfl (by decide) rfl) (by decide) (by decide) rfl rfl (by decide) (by decide) rfl (fun I h => ?_)))))
    refine (b_42r h (q := 208) (k := 32) (r := 224) (p2 := 167) (b_sh (j := 144) h rfl (by decide) rfl) rfl (by decide) (by decide) rfl (fun P h => ?_))
    refine (ex_6_0 (ex_0 (b_39 h (f := 4) (q := 225) (n2 := 162) (sl2 := 21876) ⟨by decide, by decide⟩ rfl rfl rfl rfl rfl (fun G I P h => ?_))))
    refine (ex_22 rfl (ex_0 (ex_1 (b_36 h (q := 225) (k := 0) (v := 21148051) (i2 := 44) (b_sh (j := 161) h rfl (by decide) rfl) (by decide) (by decide) rfl rfl (by decide) (by decide) rfl (fun I h => ?_)))))
    refine (ex_22 rfl (ex_0 (ex_1 (b_36 h (q := 225) (k := 1) (v := 20415859) (i2 := 45) (b_sh (j := 161) h rfl (by decide) rfl) (by decide) (by decide) rfl rfl (by decide) (by decide) rfl (fun I h => ?_)))))
    refine (ex_22 rfl (ex_0 (ex_1 (b_36 h (q := 225) (k := 2) (v := 244915) (i2 := 46) (b_sh (j := 161) h rfl (by decide) rfl) (by decide) (by decide) rfl rfl (by decide) (by decide) rfl (fun I h => ?_)))))
    refine (ex_22 rfl (ex_0 (ex_1 (b_36 h (q := 225) (k := 3) (v := 67155) (i2 := 47) (b_sh (j := 161) h rfl (by decide) rfl) (by decide) (by decide) rfl rfl (by decide) (by decide) rfl (fun I h => ?_)))))
    refine (b_42r h (q := 208) (k := 33) (r := 225) (p2 := 168) (b_sh (j := 144) h rfl (by decide) rfl) rfl (by decide) (by decide) rfl (fun P h => ?_))
    refine (ex_6_0 (ex_0 (b_39 h (f := 13) (q := 226) (n2 := 163) (sl2 := 21889) ⟨by decide, by decide⟩ rfl rfl rfl rfl rfl (fun G I P h => ?_))))
    refine (b_42r h (q := 208) (k := 35) (r := 226) (p2 := 169) (b_sh (j := 144) h rfl (by decide) rfl) rfl (by decide) (by decide) rfl (fun P h => ?_))
    refine (ex_6_0 (ex_0 (b_39 h (f := 13) (q := 227) (n2 := 164) (sl2 := 21902) ⟨by decide, by decide⟩ rfl rfl rfl rfl rfl (fun G I P h => ?_))))
    refine (b_42r h (q := 208) (k := 36) (r := 227) (p2 := 170) (b_sh (j := 144) h rfl (by decide) rfl) rfl (by decide) (by decide) rfl (fun P h => ?_))
    refine (ex_6_0 (ex_0 (b_39 h (f := 400) (q := 228) (n2 := 165) (sl2 := 22302) ⟨by decide, by decide⟩ rfl rfl rfl rfl rfl (fun G I P h => ?_))))
    refine (b_42r h (q := 208) (k := 37) (r := 228) (p2 := 171) (b_sh (j := 144) h rfl (by decide) rfl) rfl (by decide) (by decide) rfl (fun P h => ?_))
    refine (ex_6_0 (ex_0 (b_39 h (f := 6) (q := 229) (n2 := 166) (sl2 := 22308) ⟨by decide, by decide⟩ rfl rfl rfl rfl rfl (fun G I P h => ?_))))
    refine (b_42r h (q := 208) (k := 41) (r := 229) (p2 := 172) (b_sh (j := 144) h rfl (by decide) rfl) rfl (by decide) (by decide) rfl (fun P h => ?_))
    refine (ex_6_0 (ex_0 (b_39 h (f := 6) (q := 230) (n2 := 167) (sl2 := 22314) ⟨by decide, by decide⟩ rfl rfl rfl rfl rfl (fun G I P h => ?_))))
    refine (b_42r h (q := 208) (k := 42) (r := 230) (p2 := 173) (b_sh (j := 144) h rfl (by decide) rfl) rfl (by decide) (by decide) rfl (fun P h => ?_))
    refine (ex_6_0 (ex_0 (b_39 h (f := 224) (q := 231) (n2 := 168) (sl2 := 22538) ⟨by decide, by decide⟩ rfl rfl rfl rfl rfl (fun G I P h => ?_))))
    refine (b_42r h (q := 208) (k := 43) (r := 231) (p2 := 174) (b_sh (j := 144) h rfl (by decide) rfl) rfl (by decide) (by decide) rfl (fun P h => ?_))
    refine (ex_6_0 (ex_0 (b_39 h (f := 36) (q := 232) (n2 := 169) (sl2 := 22574) ⟨by decide, by decide⟩ rfl rfl rfl rfl rfl (fun G I P h => ?_))))
    refine (b_42r h (q := 208) (k := 44) (r := 232) (p2 := 175) (b_sh (j := 144) h rfl (by decide) rfl) rfl (by decide) (by decide) rfl (fun P h => ?_))
    refine (ex_6_0 (ex_0 (b_39 h (f := 11) (q := 233) (n2 := 170) (sl2 := 22585) ⟨by decide, by decide⟩ rfl rfl rfl rfl rfl (fun G I P h => ?_))))
    refine (b_42r h (q := 208) (k := 45) (r := 233) (p2 := 176) (b_sh (j := 144) h rfl (by decide) rfl) rfl (by decide) (by decide) rfl (fun P h => ?_))
    refine (ex_6_0 (ex_0 (b_39 h (f := 6) (q := 234) (n2 := 171) (sl2 := 22591) ⟨by decide, by decide⟩ rfl rfl rfl rfl rfl (fun G I P h => ?_))))
    refine (b_42r h (q := 208) (k := 46) (r := 234) (p2 := 177) (b_sh (j := 144) h rfl (by decide) rfl) rfl (by decide) (by decide) rfl (fun P h => ?_))
    refine (ex_6_0 (ex_0 (b_39 h (f := 5) (q := 235) (n2 := 172) (sl2 := 22596) ⟨by decide, by decide⟩ rfl rfl rfl rfl rfl (fun G I P h => ?_))))
    refine (b_42r h (q := 208) (k := 47) (r := 235) (p2 := 178) (b_sh (j := 144) h rfl (by decide) rfl) rfl (by decide) (by decide) rfl (fun P h => ?_))
    refine (ex_6_0 (ex_0 (b_39 h (f := 21) (q := 236) (n2 := 173) (sl2 := 22617) ⟨by decide, by decide⟩ rfl rfl rfl rfl rfl (fun G I P h => ?_))))
    refine (b_42r h (q := 208) (k := 48) (r := 236) (p2 := 179) (b_sh (j := 144) h rfl (by decide) rfl) rfl (by decide) (by decide) rfl (fun P h => ?_))
    refine (ex_6_0 (ex_0 (b_39 h (f := 4) (q := 237) (n2 := 174) (sl2 := 22621) ⟨by decide, by decide⟩ rfl rfl rfl rfl rfl (fun G I P h => ?_))))
    refine (ex_22 rfl (ex_0 (ex_1 (b_36 h (q := 237) (k := 0) (v := 599495) (i2 := 48) (b_sh (j := 173) h rfl (by decide) rfl) (by decide) (by decide) rfl rfl (by decide) (by decide) rfl (fun I h => ?_)))))
    refine (ex_22 rfl (ex_0 (ex_1 (b_36 h (q := 237) (k := 1) (v := 182682853) (i2 := 49) (b_sh (j := 173) h rfl (by decide) rfl) (by decide) (by decide) rfl rfl (by decide) (by decide) rfl (fun I h => ?_)))))
    refine (ex_22 rfl (ex_0 (ex_1 (b_36 h (q := 237) (k := 2) (v := 20350568) (i2 := 50) (b_sh (j := 173) h rfl (by decide) rfl) (by decide) (by decide) rfl rfl (by decide) (by decide) rfl (fun I h => ?_)))))
    refine (ex_22 rfl (ex_0 (ex_1 (b_36 h (q := 237) (k := 3) (v := 525939) (i2 := 51) (b_sh (j := 173) h rfl (by decide) rfl) (by decide) (by decide) rfl rfl (by decide) (by decide) rfl (fun I h => ?_)))))
    refine (b_42r h (q := 208) (k := 49) (r := 237) (p2 := 180) (b_sh (j := 144) h rfl (by decide) rfl) rfl (by decide) (by decide) rfl (fun P h => ?_))
    refine (ex_6_0 (ex_0 (b_39 h (f := 96) (q := 238) (n2 := 175) (sl2 := 22717) ⟨by decide, by decide⟩ rfl rfl rfl rfl rfl (fun G I P h => ?_))))
    refine (b_42r h (q := 208) (k := 50) (r := 238) (p2 := 181) (b_sh (j := 144) h rfl (by decide) rfl) rfl (by decide) (by decide) rfl (fun P h => ?_))
    refine (ex_6_0 (ex_0 (b_42i h (q := 208) (k := 53) (v := (-1)) (i2 := 52) (b_sh (j := 144) h rfl (by decide) rfl) rfl (by decide) (by decide) rfl (fun I h => ?_))))
    refine (ex_6_0 (ex_0 (b_39 h (f := 25) (q := 239) (n2 := 176) (sl2 := 22742) ⟨by decide, by decide⟩ rfl rfl rfl rfl rfl (fun G I P h => ?_))))
    refine (b_42r h (q := 208) (k := 56) (r := 239) (p2 := 182) (b_sh (j := 144) h rfl (by decide) rfl) rfl (by decide) (by decide) rfl (fun P h => ?_))
    refine (ex_6_0 (ex_0 (b_42i h (q := 208) (k := 57) (v := (-1)) (i2 := 53) (b_sh (j := 144) h rfl (by decide) rfl) rfl (by decide) (by decide) rfl (fun I h => ?_))))
    refine (ex_6_0 (ex_0 (b_42i h (q := 208) (k := 58) (v := (-1)) (i2 := 54) (b_sh (j := 144) h rfl (by decide) rfl) rfl (by decide) (by decide) rfl (fun I h => ?_))))
    refine (ex_6_0 (ix_41r (r := some 210) (b_sh (j := 144) h rfl (by decide) rfl) (b_pt h (by decide) (by decide) (by decide +kernel)) (ex_0 (ex_0 (b_34 h (q := 210) (k := 4) (v := (-1)) (i2 := 55) (b_sh (j := 146) h rfl (by decide) rfl) (by decide) (by decide) rfl rfl (by decide) (by decide) rfl (fun I h => ?_))))))
    refine (ex_6_0 (ix_41r (r := some 210) (b_sh (j := 144) h rfl (by decide) rfl) (b_pt h (by decide) (by decide) (by decide +kernel)) (ex_0 (ex_0 (b_34 h (q := 210) (k := 6) (v := 1) (i2 := 56) (b_sh (j := 146) h rfl (by decide) rfl) (by decide) (by decide) rfl rfl (by decide) (by decide) rfl (fun I h => ?_))))))
    exact ex_56 ⟨_, _, _, rfl, h⟩
  obtain ⟨o, e, G1, I1, P1, rfl, h1⟩ := am_doQ (as := [(.inr (.inr (some 208)))]) (Nat.le_of_ble_eq_true rfl) rfl w
  exact ⟨G1, I1, P1, e, h1, hs0⟩
theorem b_start {L : Nat} {xs : Nat → Int32} {Q : am_O → Prop} (hk : ∀ G I P, AS L xs 176 182 56 22742 G I P → am_ex (am_call am_B am_M 100) (am_B 288) (am_B 288 1) [some (.inr (.inr (some 0))), some (.inr (.inr (some 64))), some (.inr (.inr (some 208))), some (.inl 0)] [] (G, I, P) Q) : am_ex (am_call am_B am_M 100) (am_B 288) (am_B 288 0) (am_loc 4 [.inr (.inr (some 0))]) [] (am_x0 L xs) Q := by
  have h := b_0 L xs
  rw [show am_loc 4 [.inr (.inr (some 0))] = [some (.inr (.inr (some 0))), none, none, none] from rfl, show am_x0 L xs = ((am_x0 L xs).1, (am_x0 L xs).2.1, (am_x0 L xs).2.2) from rfl]
  generalize (am_x0 L xs).1 = G at *
  generalize (am_x0 L xs).2.1 = I at *
  generalize (am_x0 L xs).2.2 = P at *
  refine (b_44 h (ci := 11) (f := 17) (q := 64) (n2 := 1) (sl2 := 17) rfl rfl rfl rfl rfl (fun G I P h => ?_))
  refine (ex_22 rfl ?_)
  obtain ⟨G, I, P, e_, h_, hs_⟩ := b_c1 (d := 96) h
  refine (ix_46 (S' := [(.inr (.inr (some 64)))]) rfl hs_ e_ rfl rfl ?_)
  clear hs_ e_
  skip
  have h := h_
  refine (ex_9_1 rfl (b_44 h (ci := 12) (f := 59) (q := 208) (n2 := 145) (sl2 := 2369) rfl rfl rfl rfl rfl (fun G I P h => ?_)))
  refine (ex_22 rfl ?_)
  obtain ⟨G, I, P, e_, h_, hs_⟩ := b_c26 (d := 99) h
  refine (ix_46 (S' := [(.inr (.inr (some 208)))]) rfl hs_ e_ rfl rfl ?_)
  clear hs_ e_
  skip
  have h := h_
  refine (ex_9_2 rfl (ex_0 (ex_7_3 rfl (ex_58 ?_))))
  exact hk _ _ _ h
