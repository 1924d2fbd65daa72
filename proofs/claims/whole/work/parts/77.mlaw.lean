/-! ===== the reference reads a clause of a law ===== -/
/-- all but where the reference reads -/
def MLF (I J : Nat → Nat → Int) : Prop := ∀ q k, ¬ (q = 208 ∧ ((13 ≤ k ∧ k ≤ 21) ∨ k = 23 ∨ k = 26 ∨ k = 29 ∨ k = 30)) → ¬ (218 ≤ q ∧ q ≤ 222) → ¬ q = 238 → J q k = I q k
def MCF (B c i : Nat) (I J : Nat → Nat → Int) : Prop := ∀ q k, ¬ (q = 208 ∧ ((14 ≤ k ∧ k ≤ 19) ∨ k = 21 ∨ k = 23 ∨ k = 26 ∨ k = 29 ∨ k = 30)) → ¬ ((q = 219 ∨ q = 220) ∧ c ≤ k) → ¬ (q = 221 ∨ q = 222) → ¬ (q = B ∧ 8 * i ≤ k ∧ k < 8 * i + 8) → J q k = I q k
theorem MLF_refl {I : Nat → Nat → Int} : MLF I I := fun _ _ _ _ _ => rfl
theorem MLF_trans {I J K : Nat → Nat → Int} (h : MLF I J) (h2 : MLF J K) : MLF I K := fun q k a b c => (h2 q k a b c).trans (h q k a b c)
theorem MLF_MFr {c : Nat} {I J : Nat → Nat → Int} (h : MFr c 0 I J) : MLF I J := fun q k a b c => h q k (by omega) (by omega) (by omega)
theorem MLF_MCF {B c i : Nat} {I J : Nat → Nat → Int} (h : MCF B c i I J) (hB : B = 218 ∨ B = 238) : MLF I J := fun q k a b c => h q k (by omega) (by omega) (by omega) (by omega)
theorem MCF_M {B c c1 i : Nat} {I J K : Nat → Nat → Int} (h : MCF B c i I J) (h2 : MFr c1 0 J K) (hc : c ≤ c1) : MCF B c i I K := fun q k a b c d => (h2 q k (by omega) (by omega) (by omega)).trans (h q k a b c d)
theorem MCF_w {B c i e : Nat} {v : Int} {I J : Nat → Nat → Int} (h : MCF B c i I J) (he : e < 8) : MCF B c i I (am_u2 J B (8 * i + e) v) := fun q k a b c d => (u2_o (by omega)).trans (h q k a b c d)
theorem MCF_w0 {B c i : Nat} {v : Int} {I J : Nat → Nat → Int} (h : MCF B c i I J) : MCF B c i I (am_u2 J B (8 * i) v) := fun q k a b c d => (u2_o (by omega)).trans (h q k a b c d)
theorem MLF_w {B k0 : Nat} {v : Int} {I J : Nat → Nat → Int} (h : MLF I J) (hB : B = 218 ∨ B = 238) : MLF I (am_u2 J B k0 v) := fun q k a b c => (u2_o (by omega)).trans (h q k a b c)
/-- a piece of a clause -/
def SE (od : Bool) (I : Nat → Nat → Int) (B i e c : Nat) (o : Option Fn) : Prop := ∃ a x : Nat, I B (8 * i + e) = (a : Int) ∧ I B (8 * i + (e + 1)) = (x : Int) ∧ x ≤ c ∧ (o = none → a = x) ∧ (∀ f, o = some f → MS od (I 219) (I 220) a x 20 f ∧ Vs f)
theorem SE_mono {od : Bool} {I J : Nat → Nat → Int} {B i e c c' : Nat} {o : Option Fn} (h : SE od I B i e c o) (h1 : J B (8 * i + e) = I B (8 * i + e)) (h2 : J B (8 * i + (e + 1)) = I B (8 * i + (e + 1))) (hr : ∀ k, k < c → J 219 k = I 219 k ∧ J 220 k = I 220 k) (hc : c ≤ c') : SE od J B i e c' o := by
  obtain ⟨a, x, g1, g2, g3, g4, g5⟩ := h
  exact ⟨a, x, h1.trans g1, h2.trans g2, by omega, g4, fun f hf => ⟨MS_congr (g5 f hf).1 (fun k _ hk => hr k (by omega)), (g5 f hf).2⟩⟩
def ML (I : Nat → Nat → Int) (i c : Nat) (oc : Oc) : Prop := I 218 (8 * i) = (oc.1 : Int) ∧ oc.1 < 4 ∧ (oc.2.1 = none ↔ oc.1 = 3) ∧ SE false I 218 i 3 c oc.2.1 ∧ SE false I 218 i 5 c oc.2.2.2.2 ∧ (∀ g, oc.2.2.2.2 = some g → Vt g)
theorem ML_mono {I J : Nat → Nat → Int} {i c c' : Nat} {oc : Oc} (h : ML I i c oc) (h1 : ∀ k, 8 * i ≤ k → k < 8 * i + 8 → J 218 k = I 218 k) (hr : ∀ k, k < c → J 219 k = I 219 k ∧ J 220 k = I 220 k) (hc : c ≤ c') : ML J i c' oc := by
  obtain ⟨g1, g2, g0, g3, g4, g5⟩ := h
  exact ⟨(h1 _ (by omega) (by omega)).trans g1, g2, g0, SE_mono g3 (h1 _ (by omega) (by omega)) (h1 _ (by omega) (by omega)) hr hc, SE_mono g4 (h1 _ (by omega) (by omega)) (h1 _ (by omega) (by omega)) hr hc, g5⟩
def QK (G : am_G) (P : Nat → Nat → Option Nat) (b : Nat → Int) (n : Nat) (od : Bool) (B : Nat) (F : (Nat → Nat → Int) → Nat → Nat → Oc → Prop) (I : Nat → Nat → Int) (c i : Nat) (r : Nat ⊕ (Nat × Nat × Oc)) (o : am_O) : Prop := match r with
  | .inl x => ∃ I1, o = (none, (G, I1, P)) ∧ I1 208 19 = 1 ∧ I1 208 18 = (x : Int) ∧ MLF I I1
  | .inr (s', l', oc) => ∃ I1 c1, o = (none, (G, I1, P)) ∧ MX I1 b n od s' l' c1 ∧ c ≤ c1 ∧ I1 208 21 = ((i + 1 : Nat) : Int) ∧ F I1 i c1 oc ∧ MCF B c i I I1
theorem QK_inl {G : am_G} {P : Nat → Nat → Option Nat} {b : Nat → Int} {n : Nat} {od : Bool} {B : Nat} {F : (Nat → Nat → Int) → Nat → Nat → Oc → Prop} {I I1 : Nat → Nat → Int} {c i x : Nat} {r : Nat ⊕ (Nat × Nat × Oc)} (h : r = .inl x) (h1 : I1 208 19 = 1) (h2 : I1 208 18 = (x : Int)) (h3 : MLF I I1) : QK G P b n od B F I c i r (none, (G, I1, P)) := by
  subst h
  exact ⟨I1, rfl, h1, h2, h3⟩
theorem QK_inr {G : am_G} {P : Nat → Nat → Option Nat} {b : Nat → Int} {n : Nat} {od : Bool} {B : Nat} {F : (Nat → Nat → Int) → Nat → Nat → Oc → Prop} {I I1 : Nat → Nat → Int} {c i c1 s' l' : Nat} {oc : Oc} {r : Nat ⊕ (Nat × Nat × Oc)} (h : r = .inr (s', l', oc)) (h1 : MX I1 b n od s' l' c1) (h2 : c ≤ c1) (h3 : I1 208 21 = ((i + 1 : Nat) : Int)) (h4 : F I1 i c1 oc) (h5 : MCF B c i I I1) : QK G P b n od B F I c i r (none, (G, I1, P)) := by
  subst h
  exact ⟨I1, c1, rfl, h1, h2, h3, h4, h5⟩
section
variable {J I1 : Nat → Nat → Int} {b : Nat → Int} {n : Nat} {od : Bool} {s l c : Nat}
theorem MX_M (h : MX J b n od s l c) : MK J b n s := h.1
theorem MX_s (h : MX J b n od s l c) : s ≤ n := h.2.1
theorem MX_l (h : MX J b n od s l c) : l ≤ 50 := h.2.2.1
theorem MX_b (h : MX J b n od s l c) : J 208 19 = 0 := h.2.2.2.1.1
theorem MX_18 (h : MX J b n od s l c) : J 208 18 = -1 := h.2.2.2.1.2
theorem MX_o (h : MX J b n od s l c) : J 208 20 = (if od = true then 1 else 0) := h.2.2.2.2.1
theorem MX_26 (h : MX J b n od s l c) : J 208 26 = (l : Int) := h.2.2.2.2.2.1
theorem MX_23 (h : MX J b n od s l c) : J 208 23 = (c : Int) := h.2.2.2.2.2.2.1
theorem MX_c (h : MX J b n od s l c) : c ≤ s := h.2.2.2.2.2.2.2.1
theorem MX_K (h : MX J b n od s l c) : KM J := h.2.2.2.2.2.2.2.2
theorem MX_next (h : MX J b n od s l c) (hl : s < n) (m : MK I1 b n (nx b n s)) (f : MKF J I1) : MX I1 b n od (nx b n s) l c := by
  obtain ⟨_, hs, h50, h19, h20, h26, h23, hc, hK⟩ := h
  have hx := nx_2 (b := b) s hl
  exact ⟨m, hx.2, h50, ⟨(f _ _ (by decide)).trans h19.1, (f _ _ (by decide)).trans h19.2⟩, (f _ _ (by decide)).trans h20, (f _ _ (by decide)).trans h26, (f _ _ (by decide)).trans h23, by omega, KM_fr hK (fun q k hq => f _ _ (by omega))⟩
theorem MX_fr {K : Nat → Nat → Int} (h : MX J b n od s l c) (f : ∀ q k, ((q = 208 ∧ ((13 ≤ k ∧ k ≤ 20) ∨ k = 23 ∨ k = 26)) ∨ q = 217 ∨ q = 223 ∨ q = 224 ∨ q = 225 ∨ q = 237) → K q k = J q k) : MX K b n od s l c := by
  obtain ⟨hM, hs, h50, h19, h20, h26, h23, hc, hK⟩ := h
  exact ⟨MK_fr hM (fun q k hq => f _ _ (by omega)), hs, h50, ⟨(f _ _ (by omega)).trans h19.1, (f _ _ (by omega)).trans h19.2⟩, (f _ _ (by omega)).trans h20, (f _ _ (by omega)).trans h26, (f _ _ (by omega)).trans h23, hc, KM_fr hK (fun q k hq => f _ _ (by omega))⟩
end
theorem MFr_MKF {I J : Nat → Nat → Int} {c : Nat} (h : MKF I J) : MFr c 0 I J := MFr_MK h
def hit (ws : List (List Int)) (t : List Int) (k : Nat) (its : Int) : Int := if t = ws.getD k [] then (k : Int) else its
theorem hw_at {t : List Int} : am_it (fun k its => hit HWs t k its) 4 0 (-1) = ooI HWs 0 t := by
  by_cases h0 : t = [116, 101, 108, 108, 115]
  · subst h0; decide
  by_cases h1 : t = [115, 111, 97, 107, 115]
  · subst h1; decide
  by_cases h2 : t = [103, 111, 101, 115]
  · subst h2; decide
  by_cases h3 : t = [98, 97, 114, 115]
  · subst h3; decide
  have e : ∀ k its, k < 4 → hit HWs t k its = its := by
    intro k its hk
    refine if_neg (fun z => ?_)
    have hm : t ∈ HWs := by rw [z, List.getD_eq_getElem?_getD, List.getElem?_eq_getElem (show k < HWs.length from hk)]; exact List.getElem_mem _
    simp only [HWs, List.mem_cons, List.not_mem_nil, or_false] at hm
    rcases hm with hm | hm | hm | hm <;> contradiction
  have r : am_it (fun k its => hit HWs t k its) 4 0 (-1) = -1 := am_it_inv (f := fun k its => hit HWs t k its) (inv := fun _ its => its = -1) (N := 4) (fun i s hi h => (e i s hi).trans h) 4 0 (-1) rfl rfl
  rw [r]
  unfold HWs
  simp only [ooI, h0, h1, h2, h3, if_false]
theorem aw_at {t : List Int} : am_it (fun k its => hit AWs t k its) 4 0 (-1) = ooI AWs 0 t := by
  by_cases h0 : t = [114, 105, 110, 103]
  · subst h0; decide
  by_cases h1 : t = [101, 110, 103, 97, 103, 101]
  · subst h1; decide
  by_cases h2 : t = [115, 109, 97, 115, 104]
  · subst h2; decide
  by_cases h3 : t = [112, 97, 115, 115]
  · subst h3; decide
  have e : ∀ k its, k < 4 → hit AWs t k its = its := by
    intro k its hk
    refine if_neg (fun z => ?_)
    have hm : t ∈ AWs := by rw [z, List.getD_eq_getElem?_getD, List.getElem?_eq_getElem (show k < AWs.length from hk)]; exact List.getElem_mem _
    simp only [AWs, List.mem_cons, List.not_mem_nil, or_false] at hm
    rcases hm with hm | hm | hm | hm <;> contradiction
  have r : am_it (fun k its => hit AWs t k its) 4 0 (-1) = -1 := am_it_inv (f := fun k its => hit AWs t k its) (inv := fun _ its => its = -1) (N := 4) (fun i s hi h => (e i s hi).trans h) 4 0 (-1) rfl rfl
  rw [r]
  unfold AWs
  simp only [ooI, h0, h1, h2, h3, if_false]
theorem cw20_bad {d : Nat} {G : am_G} {I J : Nat → Nat → Int} {P : Nat → Nat → Option Nat} (hS : ST G P) {b : Nat → Int} {n : Nat} (hB : TB b n) {s l c i : Nat} {c0 v : Nat} {r : Nat ⊕ (Nat × Nat × Oc)} (hi : i < 12) {x y : Nat} (h19 : J 208 19 = 1) (h18 : J 208 18 = (x : Int)) (h23 : J 208 23 = (y : Int)) (hF : MLF I J) (hr : r = .inl x) : am_ex (am_call am_B am_M (d + 8)) (am_B 223) (am_B 223 20) [some (.inr (.inr (some 208))), some (.inl (v : Int)), some (.inl ((8 * i : Nat) : Int)), some (.inl 8)] [] (G, J, P) (QK G P b n false 218 ML I c0 i r) := by
  refine (ex_6_0 (ix_41r (sh_208 hS) (pt_208_22 hS) (ex_4_2 (ex_0 (ex_11e (v := ((8 * i + 6 : Nat) : Int)) ((am_add ⟨by omega, by omega⟩).trans (by omega)) (ex_6_0 (ix_41i (v := (y : Int)) (sh_208 hS) h23 (ix_34 (j := (8 * i + 6)) (sh_218 hS) (by omega) (by omega) (by omega) ?_))))))))
  exact ex_56 (QK_inl hr ((u2_q (by decide)).trans h19) ((u2_q (by decide)).trans h18) (MLF_w hF (Or.inl rfl)))
theorem cw20_ok {d : Nat} {G : am_G} {I J : Nat → Nat → Int} {P : Nat → Nat → Option Nat} (hS : ST G P) {b : Nat → Int} {n : Nat} (hB : TB b n) {s l c i : Nat} {c0 v : Nat} {r : Nat ⊕ (Nat × Nat × Oc)} (hi : i < 12) {a2 : Nat} {o1 o3 : Option Fn} (hX : MX J b n false s l c) (hc0 : c0 ≤ c) (h21 : J 208 21 = ((i + 1 : Nat) : Int)) (hv : J 218 (8 * i) = (v : Int)) (hv4 : v < 4) (hn1 : o1 = none ↔ v = 3) (h1 : SE false J 218 i 3 c o1) (h5 : J 218 (8 * i + 5) = (a2 : Int)) (ha2 : o3 = none → a2 = c) (hs3 : ∀ g, o3 = some g → MS false (J 219) (J 220) a2 c 20 g ∧ Vt g) (hF : MCF 218 c0 i I J) (hr : r = .inr (s, l, (v, o1, none, 1, o3))) : am_ex (am_call am_B am_M (d + 8)) (am_B 223) (am_B 223 20) [some (.inr (.inr (some 208))), some (.inl (v : Int)), some (.inl ((8 * i : Nat) : Int)), some (.inl 8)] [] (G, J, P) (QK G P b n false 218 ML I c0 i r) := by
  have hn4 := hB.1
  refine (ex_6_0 (ix_41r (sh_208 hS) (pt_208_22 hS) (ex_4_2 (ex_0 (ex_11e (v := ((8 * i + 6 : Nat) : Int)) ((am_add ⟨by omega, by omega⟩).trans (by omega)) (ex_6_0 (ix_41i (v := (c : Int)) (sh_208 hS) (MX_23 hX) (ix_34 (j := (8 * i + 6)) (sh_218 hS) (by omega) (by omega) (by omega) ?_))))))))
  exact ex_56 (QK_inr hr (MX_fr hX (fun q k hq => u2_o (by omega))) hc0 ((u2_q (by decide)).trans h21) ⟨(u2_k (by omega)).trans hv, hv4, hn1, SE_mono h1 (u2_k (by omega)) (u2_k (by omega)) (fun k _ => ⟨u2_q (by decide), u2_q (by decide)⟩) (Nat.le_refl _), ⟨a2, c, (u2_k (by omega)).trans h5, u2_e, Nat.le_refl _, ha2, fun f hf => ⟨MS_congr (hs3 f hf).1 (fun k _ _ => ⟨u2_q (by decide), u2_q (by decide)⟩), Vt_Vs (hs3 f hf).2⟩⟩, fun g hg => (hs3 g hg).2⟩ (MCF_w hF (by decide)))
theorem cw17_bad {d : Nat} {G : am_G} {I J : Nat → Nat → Int} {P : Nat → Nat → Option Nat} (hS : ST G P) {b : Nat → Int} {n : Nat} (hB : TB b n) {s l c i : Nat} {c0 v : Nat} {r : Nat ⊕ (Nat × Nat × Oc)} (hi : i < 12) {x y : Nat} (h19 : J 208 19 = 1) (h18 : J 208 18 = (x : Int)) (h23 : J 208 23 = (y : Int)) (hF : MLF I J) (hr : r = .inl x) : am_ex (am_call am_B am_M (d + 8)) (am_B 223) (am_B 223 17) [some (.inr (.inr (some 208))), some (.inl (v : Int)), some (.inl ((8 * i : Nat) : Int)), some (.inl 8)] [] (G, J, P) (QK G P b n false 218 ML I c0 i r) := by
  refine (ex_6_0 (ix_41r (sh_208 hS) (pt_208_22 hS) (ex_4_2 (ex_0 (ex_11e (v := ((8 * i + 4 : Nat) : Int)) ((am_add ⟨by omega, by omega⟩).trans (by omega)) (ex_6_0 (ix_41i (v := (y : Int)) (sh_208 hS) h23 (ix_34 (j := (8 * i + 4)) (sh_218 hS) (by omega) (by omega) (by omega) (ex_6_0 (ix_41r (sh_208 hS) (pt_208_22 hS) (ex_4_2 (ex_0 (ex_11e (v := ((8 * i + 5 : Nat) : Int)) ((am_add ⟨by omega, by omega⟩).trans (by omega)) (ex_6_0 (ix_41i (v := (y : Int)) (sh_208 hS) ((u2_q (by decide)).trans h23) (ix_34 (j := (8 * i + 5)) (sh_218 hS) (by omega) (by omega) (by omega) (ex_6_0 (ix_41i (v := 1) (sh_208 hS) ((u2_q (by decide)).trans ((u2_q (by decide)).trans h19)) (ex_if1 (fun _ => ?_) (fun hc => by exfalso; revert hc; decide))))))))))))))))))))
  exact cw20_bad (s := s) (l := l) (c := c) hS hB hi ((u2_q (by decide)).trans ((u2_q (by decide)).trans h19)) ((u2_q (by decide)).trans ((u2_q (by decide)).trans h18)) ((u2_q (by decide)).trans ((u2_q (by decide)).trans h23)) (MLF_w (MLF_w hF (Or.inl rfl)) (Or.inl rfl)) hr
theorem cw17_n {d : Nat} {G : am_G} {I J : Nat → Nat → Int} {P : Nat → Nat → Option Nat} (hS : ST G P) {b : Nat → Int} {n : Nat} (hB : TB b n) {s l c i : Nat} {c0 v : Nat} {r : Nat ⊕ (Nat × Nat × Oc)} (hi : i < 12) {a1 : Nat} {o1 : Option Fn} (hX : MX J b n false s l c) (hc0 : c0 ≤ c) (h21 : J 208 21 = ((i + 1 : Nat) : Int)) (hv : J 218 (8 * i) = (v : Int)) (hv4 : v < 4) (hn1 : o1 = none ↔ v = 3) (h3 : J 218 (8 * i + 3) = (a1 : Int)) (ha1 : o1 = none → a1 = c) (hs1 : ∀ f, o1 = some f → MS false (J 219) (J 220) a1 c 20 f ∧ Vs f) (hF : MCF 218 c0 i I J) (hr : r = st4K b n false v o1 none 1 s l) (hif : ¬ tk b n s = [105, 102]) : am_ex (am_call am_B am_M (d + 8)) (am_B 223) (am_B 223 17) [some (.inr (.inr (some 208))), some (.inl (v : Int)), some (.inl ((8 * i : Nat) : Int)), some (.inl 8)] [] (G, J, P) (QK G P b n false 218 ML I c0 i r) := by
  have hn4 := hB.1
  have hs := MX_s hX
  have hl50 := MX_l hX
  have hX2 : MX (am_u2 (am_u2 J 218 (8 * i + 4) (c : Int)) 218 (8 * i + 5) (c : Int)) b n false s l c := MX_fr hX (fun q k hq => (u2_o (by omega)).trans (u2_o (by omega)))
  have hF2 : MCF 218 c0 i I (am_u2 (am_u2 J 218 (8 * i + 4) (c : Int)) 218 (8 * i + 5) (c : Int)) := MCF_w (MCF_w hF (by decide)) (by decide)
  have hv2 : (am_u2 (am_u2 J 218 (8 * i + 4) (c : Int)) 218 (8 * i + 5) (c : Int)) 218 (8 * i) = (v : Int) := (u2_k (by omega)).trans ((u2_k (by omega)).trans hv)
  have h52 : (am_u2 (am_u2 J 218 (8 * i + 4) (c : Int)) 218 (8 * i + 5) (c : Int)) 218 (8 * i + 5) = (c : Int) := u2_e
  have h212 : (am_u2 (am_u2 J 218 (8 * i + 4) (c : Int)) 218 (8 * i + 5) (c : Int)) 208 21 = ((i + 1 : Nat) : Int) := (u2_q (by decide)).trans ((u2_q (by decide)).trans h21)
  have hSE : SE false (am_u2 (am_u2 J 218 (8 * i + 4) (c : Int)) 218 (8 * i + 5) (c : Int)) 218 i 3 c o1 := ⟨a1, c, (u2_k (by omega)).trans ((u2_k (by omega)).trans h3), (u2_k (by omega)).trans u2_e, Nat.le_refl _, ha1, fun f hf => ⟨MS_congr (hs1 f hf).1 (fun k _ _ => ⟨(u2_q (by decide)).trans (u2_q (by decide)), (u2_q (by decide)).trans (u2_q (by decide))⟩), (hs1 f hf).2⟩⟩
  refine (ex_6_0 (ix_41r (sh_208 hS) (pt_208_22 hS) (ex_4_2 (ex_0 (ex_11e (v := ((8 * i + 4 : Nat) : Int)) ((am_add ⟨by omega, by omega⟩).trans (by omega)) (ex_6_0 (ix_41i (v := (c : Int)) (sh_208 hS) (MX_23 hX) (ix_34 (j := (8 * i + 4)) (sh_218 hS) (by omega) (by omega) (by omega) (ex_6_0 (ix_41r (sh_208 hS) (pt_208_22 hS) (ex_4_2 (ex_0 (ex_11e (v := ((8 * i + 5 : Nat) : Int)) ((am_add ⟨by omega, by omega⟩).trans (by omega)) (ex_6_0 (ix_41i (v := (c : Int)) (sh_208 hS) ((u2_q (by decide)).trans (MX_23 hX)) (ix_34 (j := (8 * i + 5)) (sh_218 hS) (by omega) (by omega) (by omega) (ex_6_0 (ix_41i (v := 0) (sh_208 hS) ((u2_q (by decide)).trans ((u2_q (by decide)).trans (MX_b hX))) (ex_if1 (fun hc => by exfalso; revert hc; decide) (fun _ => ?_))))))))))))))))))))
  refine (ex_6_0 (ex_1 (ix_46 (S' := [(.inl 0)]) rfl (sh_208 hS) (c_isW_f hS hB (MX_M hX2) (MX_s hX2) (v := 294) [105, 102] (lets_of rfl) (by decide) (by decide) hif) rfl rfl (ex_if0 (fun _ => ?_) (fun hc => by exfalso; revert hc; decide)))))
  exact cw20_ok hS hB hi (o1 := o1) (o3 := none) hX2 hc0 h212 hv2 hv4 hn1 hSE h52 (fun _ => rfl) (fun g hg => (by cases hg)) hF2 (by rw [hr]; unfold st4K st4; rw [if_neg hif]; rfl)
theorem cw17_x {d : Nat} {G : am_G} {I J : Nat → Nat → Int} {P : Nat → Nat → Option Nat} (hS : ST G P) {b : Nat → Int} {n : Nat} (hB : TB b n) {s l c i : Nat} {c0 v : Nat} {r : Nat ⊕ (Nat × Nat × Oc)} (hi : i < 12) {a1 : Nat} {o1 : Option Fn} (hX : MX J b n false s l c) (hc0 : c0 ≤ c) (h21 : J 208 21 = ((i + 1 : Nat) : Int)) (hv : J 218 (8 * i) = (v : Int)) (hv4 : v < 4) (hn1 : o1 = none ↔ v = 3) (h3 : J 218 (8 * i + 3) = (a1 : Int)) (ha1 : o1 = none → a1 = c) (hs1 : ∀ f, o1 = some f → MS false (J 219) (J 220) a1 c 20 f ∧ Vs f) (hF : MCF 218 c0 i I J) (hr : r = st4K b n false v o1 none 1 s l) (hif : tk b n s = [105, 102]) {x : Nat} (hpv : px_test b n false 8 (nx b n s) l = .inl x) : am_ex (am_call am_B am_M (d + 8)) (am_B 223) (am_B 223 17) [some (.inr (.inr (some 208))), some (.inl (v : Int)), some (.inl ((8 * i : Nat) : Int)), some (.inl 8)] [] (G, J, P) (QK G P b n false 218 ML I c0 i r) := by
  have hn4 := hB.1
  have hs := MX_s hX
  have hl50 := MX_l hX
  have hX2 : MX (am_u2 (am_u2 J 218 (8 * i + 4) (c : Int)) 218 (8 * i + 5) (c : Int)) b n false s l c := MX_fr hX (fun q k hq => (u2_o (by omega)).trans (u2_o (by omega)))
  have hF2 : MCF 218 c0 i I (am_u2 (am_u2 J 218 (8 * i + 4) (c : Int)) 218 (8 * i + 5) (c : Int)) := MCF_w (MCF_w hF (by decide)) (by decide)
  have hv2 : (am_u2 (am_u2 J 218 (8 * i + 4) (c : Int)) 218 (8 * i + 5) (c : Int)) 218 (8 * i) = (v : Int) := (u2_k (by omega)).trans ((u2_k (by omega)).trans hv)
  have h52 : (am_u2 (am_u2 J 218 (8 * i + 4) (c : Int)) 218 (8 * i + 5) (c : Int)) 218 (8 * i + 5) = (c : Int) := u2_e
  have h212 : (am_u2 (am_u2 J 218 (8 * i + 4) (c : Int)) 218 (8 * i + 5) (c : Int)) 208 21 = ((i + 1 : Nat) : Int) := (u2_q (by decide)).trans ((u2_q (by decide)).trans h21)
  have hSE : SE false (am_u2 (am_u2 J 218 (8 * i + 4) (c : Int)) 218 (8 * i + 5) (c : Int)) 218 i 3 c o1 := ⟨a1, c, (u2_k (by omega)).trans ((u2_k (by omega)).trans h3), (u2_k (by omega)).trans u2_e, Nat.le_refl _, ha1, fun f hf => ⟨MS_congr (hs1 f hf).1 (fun k _ _ => ⟨(u2_q (by decide)).trans (u2_q (by decide)), (u2_q (by decide)).trans (u2_q (by decide))⟩), (hs1 f hf).2⟩⟩
  have hlt := tk_lt hs hif
  have hnx := nx_2 (b := b) s hlt
  refine (ex_6_0 (ix_41r (sh_208 hS) (pt_208_22 hS) (ex_4_2 (ex_0 (ex_11e (v := ((8 * i + 4 : Nat) : Int)) ((am_add ⟨by omega, by omega⟩).trans (by omega)) (ex_6_0 (ix_41i (v := (c : Int)) (sh_208 hS) (MX_23 hX) (ix_34 (j := (8 * i + 4)) (sh_218 hS) (by omega) (by omega) (by omega) (ex_6_0 (ix_41r (sh_208 hS) (pt_208_22 hS) (ex_4_2 (ex_0 (ex_11e (v := ((8 * i + 5 : Nat) : Int)) ((am_add ⟨by omega, by omega⟩).trans (by omega)) (ex_6_0 (ix_41i (v := (c : Int)) (sh_208 hS) ((u2_q (by decide)).trans (MX_23 hX)) (ix_34 (j := (8 * i + 5)) (sh_218 hS) (by omega) (by omega) (by omega) (ex_6_0 (ix_41i (v := 0) (sh_208 hS) ((u2_q (by decide)).trans ((u2_q (by decide)).trans (MX_b hX))) (ex_if1 (fun hc => by exfalso; revert hc; decide) (fun _ => ?_))))))))))))))))))))
  refine (ex_6_0 (ex_1 (ix_46 (S' := [(.inl 1)]) rfl (sh_208 hS) (c_isW_t hS hB (MX_M hX2) (MX_s hX2) (v := 294) [105, 102] (lets_of rfl) (by decide) (by decide) hif) rfl rfl (ex_if0 (fun hc => by exfalso; revert hc; decide) (fun _ => ?_)))))
  refine (ex_6_0 ?_)
  obtain ⟨J3, e3, m3, f3⟩ := c_next (d := d + 6) hS hB (MX_M hX2) (MX_s hX2)
  have hX3 := MX_next hX2 hlt m3 f3
  refine (ix_46 (S' := []) rfl (sh_208 hS) e3 rfl rfl (ex_6_0 (ex_0 ?_)))
  obtain ⟨o_, eo, qo⟩ := c_exprT (d := d + 1) hS hB hX3
  rw [hpv] at qo
  obtain ⟨J4, rfl, b4, x4, f4, y4, hy4, -⟩ := qo
  refine (ix_46 (S' := []) rfl (sh_208 hS) eo rfl rfl (ex_58 ?_))
  exact cw20_bad (s := s) (l := l) (c := c) hS hB hi b4 x4 hy4 (MLF_trans (MLF_MCF hF2 (Or.inl rfl)) (MLF_trans (MLF_MFr (MFr_MKF (c := 0) f3)) (MLF_MFr f4))) (by rw [hr]; unfold st4K st4; rw [if_pos hif, hpv]; rfl)
theorem cw17_s {d : Nat} {G : am_G} {I J : Nat → Nat → Int} {P : Nat → Nat → Option Nat} (hS : ST G P) {b : Nat → Int} {n : Nat} (hB : TB b n) {s l c i : Nat} {c0 v : Nat} {r : Nat ⊕ (Nat × Nat × Oc)} (hi : i < 12) {a1 : Nat} {o1 : Option Fn} (hX : MX J b n false s l c) (hc0 : c0 ≤ c) (h21 : J 208 21 = ((i + 1 : Nat) : Int)) (hv : J 218 (8 * i) = (v : Int)) (hv4 : v < 4) (hn1 : o1 = none ↔ v = 3) (h3 : J 218 (8 * i + 3) = (a1 : Int)) (ha1 : o1 = none → a1 = c) (hs1 : ∀ f, o1 = some f → MS false (J 219) (J 220) a1 c 20 f ∧ Vs f) (hF : MCF 218 c0 i I J) (hr : r = st4K b n false v o1 none 1 s l) (hif : tk b n s = [105, 102]) {s4 l4 : Nat} {g : Fn} (hpv : px_test b n false 8 (nx b n s) l = .inr (s4, l4, g)) (hVg : Vt g) : am_ex (am_call am_B am_M (d + 8)) (am_B 223) (am_B 223 17) [some (.inr (.inr (some 208))), some (.inl (v : Int)), some (.inl ((8 * i : Nat) : Int)), some (.inl 8)] [] (G, J, P) (QK G P b n false 218 ML I c0 i r) := by
  have hn4 := hB.1
  have hs := MX_s hX
  have hl50 := MX_l hX
  have hX2 : MX (am_u2 (am_u2 J 218 (8 * i + 4) (c : Int)) 218 (8 * i + 5) (c : Int)) b n false s l c := MX_fr hX (fun q k hq => (u2_o (by omega)).trans (u2_o (by omega)))
  have hF2 : MCF 218 c0 i I (am_u2 (am_u2 J 218 (8 * i + 4) (c : Int)) 218 (8 * i + 5) (c : Int)) := MCF_w (MCF_w hF (by decide)) (by decide)
  have hv2 : (am_u2 (am_u2 J 218 (8 * i + 4) (c : Int)) 218 (8 * i + 5) (c : Int)) 218 (8 * i) = (v : Int) := (u2_k (by omega)).trans ((u2_k (by omega)).trans hv)
  have h52 : (am_u2 (am_u2 J 218 (8 * i + 4) (c : Int)) 218 (8 * i + 5) (c : Int)) 218 (8 * i + 5) = (c : Int) := u2_e
  have h212 : (am_u2 (am_u2 J 218 (8 * i + 4) (c : Int)) 218 (8 * i + 5) (c : Int)) 208 21 = ((i + 1 : Nat) : Int) := (u2_q (by decide)).trans ((u2_q (by decide)).trans h21)
  have hSE : SE false (am_u2 (am_u2 J 218 (8 * i + 4) (c : Int)) 218 (8 * i + 5) (c : Int)) 218 i 3 c o1 := ⟨a1, c, (u2_k (by omega)).trans ((u2_k (by omega)).trans h3), (u2_k (by omega)).trans u2_e, Nat.le_refl _, ha1, fun f hf => ⟨MS_congr (hs1 f hf).1 (fun k _ _ => ⟨(u2_q (by decide)).trans (u2_q (by decide)), (u2_q (by decide)).trans (u2_q (by decide))⟩), (hs1 f hf).2⟩⟩
  have hlt := tk_lt hs hif
  have hnx := nx_2 (b := b) s hlt
  refine (ex_6_0 (ix_41r (sh_208 hS) (pt_208_22 hS) (ex_4_2 (ex_0 (ex_11e (v := ((8 * i + 4 : Nat) : Int)) ((am_add ⟨by omega, by omega⟩).trans (by omega)) (ex_6_0 (ix_41i (v := (c : Int)) (sh_208 hS) (MX_23 hX) (ix_34 (j := (8 * i + 4)) (sh_218 hS) (by omega) (by omega) (by omega) (ex_6_0 (ix_41r (sh_208 hS) (pt_208_22 hS) (ex_4_2 (ex_0 (ex_11e (v := ((8 * i + 5 : Nat) : Int)) ((am_add ⟨by omega, by omega⟩).trans (by omega)) (ex_6_0 (ix_41i (v := (c : Int)) (sh_208 hS) ((u2_q (by decide)).trans (MX_23 hX)) (ix_34 (j := (8 * i + 5)) (sh_218 hS) (by omega) (by omega) (by omega) (ex_6_0 (ix_41i (v := 0) (sh_208 hS) ((u2_q (by decide)).trans ((u2_q (by decide)).trans (MX_b hX))) (ex_if1 (fun hc => by exfalso; revert hc; decide) (fun _ => ?_))))))))))))))))))))
  refine (ex_6_0 (ex_1 (ix_46 (S' := [(.inl 1)]) rfl (sh_208 hS) (c_isW_t hS hB (MX_M hX2) (MX_s hX2) (v := 294) [105, 102] (lets_of rfl) (by decide) (by decide) hif) rfl rfl (ex_if0 (fun hc => by exfalso; revert hc; decide) (fun _ => ?_)))))
  refine (ex_6_0 ?_)
  obtain ⟨J3, e3, m3, f3⟩ := c_next (d := d + 6) hS hB (MX_M hX2) (MX_s hX2)
  have hX3 := MX_next hX2 hlt m3 f3
  refine (ix_46 (S' := []) rfl (sh_208 hS) e3 rfl rfl (ex_6_0 (ex_0 ?_)))
  obtain ⟨o_, eo, qo⟩ := c_exprT (d := d + 1) hS hB hX3
  rw [hpv] at qo
  obtain ⟨J4, c4, rfl, hX4, hM4, f4⟩ := qo
  refine (ix_46 (S' := []) rfl (sh_208 hS) eo rfl rfl (ex_58 ?_))
  have hcc := hM4.1
  have f34 : ∀ q k, q = 218 ∨ ((q = 219 ∨ q = 220) ∧ k < c) ∨ (q = 208 ∧ k = 21) → J4 q k = (am_u2 (am_u2 J 218 (8 * i + 4) (c : Int)) 218 (8 * i + 5) (c : Int)) q k := fun q k hq => (f4 q k (by omega) (by omega) (by omega)).trans (f3 q k (by omega))
  exact cw20_ok hS hB hi (o1 := o1) (o3 := some g) (a2 := c) hX4 (by omega) ((f34 _ _ (by omega)).trans h212) ((f34 _ _ (by omega)).trans hv2) hv4 hn1 (SE_mono hSE (f34 _ _ (by omega)) (f34 _ _ (by omega)) (fun k hk => ⟨f34 _ _ (by omega), f34 _ _ (by omega)⟩) (by omega)) ((f34 _ _ (by omega)).trans h52) (fun hh => (by cases hh)) (fun g' hg => by cases hg; exact ⟨hM4, hVg⟩) (MCF_M (MCF_M hF2 (MFr_MKF (c := c) f3) hc0) f4 hc0) (by rw [hr]; unfold st4K st4; rw [if_pos hif, hpv]; rfl)
theorem cw17 {d : Nat} {G : am_G} {I J : Nat → Nat → Int} {P : Nat → Nat → Option Nat} (hS : ST G P) {b : Nat → Int} {n : Nat} (hB : TB b n) {s l c i : Nat} {c0 v : Nat} {r : Nat ⊕ (Nat × Nat × Oc)} (hi : i < 12) {a1 : Nat} {o1 : Option Fn} (hX : MX J b n false s l c) (hc0 : c0 ≤ c) (h21 : J 208 21 = ((i + 1 : Nat) : Int)) (hv : J 218 (8 * i) = (v : Int)) (hv4 : v < 4) (hn1 : o1 = none ↔ v = 3) (h3 : J 218 (8 * i + 3) = (a1 : Int)) (ha1 : o1 = none → a1 = c) (hs1 : ∀ f, o1 = some f → MS false (J 219) (J 220) a1 c 20 f ∧ Vs f) (hF : MCF 218 c0 i I J) (hr : r = st4K b n false v o1 none 1 s l) : am_ex (am_call am_B am_M (d + 8)) (am_B 223) (am_B 223 17) [some (.inr (.inr (some 208))), some (.inl (v : Int)), some (.inl ((8 * i : Nat) : Int)), some (.inl 8)] [] (G, J, P) (QK G P b n false 218 ML I c0 i r) := by
  by_cases hif : tk b n s = [105, 102]
  · have hnx := nx_2 (b := b) s (tk_lt (MX_s hX) hif)
    have hg := px_test_ok (b := b) (n := n) (od := false) 8 (nx b n s) l hnx.2 (MX_l hX)
    cases hpv : px_test b n false 8 (nx b n s) l with
    | inl x => exact cw17_x hS hB hi hX hc0 h21 hv hv4 hn1 h3 ha1 hs1 hF hr hif hpv
    | inr q => obtain ⟨s4, l4, g⟩ := q; rw [hpv] at hg; exact cw17_s hS hB hi hX hc0 h21 hv hv4 hn1 h3 ha1 hs1 hF hr hif hpv hg.2.2.2.2
  · exact cw17_n hS hB hi hX hc0 h21 hv hv4 hn1 h3 ha1 hs1 hF hr hif
theorem cw12_b {d : Nat} {G : am_G} {I J : Nat → Nat → Int} {P : Nat → Nat → Option Nat} (hS : ST G P) {b : Nat → Int} {n : Nat} (hB : TB b n) {s l c i : Nat} {v : Nat} {r : Nat ⊕ (Nat × Nat × Oc)} (hi : i < 12) (hX : MX J b n false s l c) (h21 : J 208 21 = (i : Int)) (hv4 : v < 4) (hF : MCF 218 c i I J) (hr : r = st1K b n false v s l) (h3 : v = 3) : am_ex (am_call am_B am_M (d + 8)) (am_B 223) (am_B 223 12) [some (.inr (.inr (some 208))), some (.inl (v : Int)), some (.inl 4), none] [] (G, J, P) (QK G P b n false 218 ML I c i r) := by
  have hn4 := hB.1
  have hs := MX_s hX
  refine (ex_0 (ex_6_0 (ix_41i (v := (i : Int)) (sh_208 hS) h21 (ex_11e (v := ((8 * i : Nat) : Int)) ((am_mul ⟨by omega, by omega⟩).trans (by omega)) (ex_7_2 rfl (ex_0 (ex_7_3 rfl (ex_58 ?_))))))))
  refine ex_forR (b := 13) (σ := Unit) (8) (fun j u => u) (fun j u K => MX K b n false s l c ∧ K 208 21 = (i : Int) ∧ MCF 218 c i I K) (fun j u e_j => [some (.inr (.inr (some 208))), some (.inl (v : Int)), some (.inl ((8 * i : Nat) : Int)), some (.inl (j : Int))]) ?_ (8) (0) (()) (fun k_ => ([some (.inr (.inr (some 208))), some (.inl (v : Int)), some (.inl ((8 * i : Nat) : Int)), some (.inl 0)] : am_L).getD k_ none) (J) (by omega) (⟨hX, h21, hF⟩) rfl ?_
  · intro j u e_j K hij hvj hkj
    obtain ⟨hXj, h21j, hFj⟩ := hvj
    refine (ex_4_3 (ex_0 ?_))
    refine ex_ic3 (fun hc78 => by exfalso; omega) (fun hc78 => ?_)
    refine (ex_6_0 (ix_41r (sh_208 hS) (pt_208_22 hS) (ex_4_2 (ex_4_3 (ex_11e (v := ((8 * i + j : Nat) : Int)) ((am_add ⟨by omega, by omega⟩).trans (by omega)) (ex_0 (ix_34 (j := (8 * i + j)) (sh_218 hS) (by omega) (by omega) (by omega) (ex_10_3 ⟨by omega, by omega⟩ rfl (ex_28 ?_)))))))))
    exact hkj (()) (fun k_ => ([some (.inr (.inr (some 208))), some (.inl (v : Int)), some (.inl ((8 * i : Nat) : Int)), some (.inl ((j : Int) + 1))] : am_L).getD k_ none) _ (rfl) (⟨MX_fr hXj (fun q k hq => u2_o (by omega)), (u2_q (by decide)).trans h21j, MCF_w hFj hij⟩)
  · intro u e_j K hsj hvj
    obtain ⟨hXj, h21j, hFj⟩ := hvj
    refine (ex_4_3 (ex_0 ?_))
    refine ex_ic3 (fun hc78 => ?_) (fun hc78 => by exfalso; omega)
    refine (ex_6_0 (ix_41r (sh_208 hS) (pt_208_22 hS) (ex_4_2 (ex_4_1 (ix_34 (j := (8 * i)) (sh_218 hS) (by omega) (by omega) (by omega) (ex_6_0 (ex_22 rfl (ix_41i (v := (i : Int)) (sh_208 hS) ((u2_q (by decide)).trans h21j) (ex_0 (ex_add ⟨by omega, by omega⟩ (ix_42i (sh_208 hS) (ex_6_0 (ix_41r (sh_208 hS) (pt_208_22 hS) (ex_4_2 (ex_0 (ex_11e (v := ((8 * i + 3 : Nat) : Int)) ((am_add ⟨by omega, by omega⟩).trans (by omega)) (ex_6_0 (ix_41i (v := (c : Int)) (sh_208 hS) ((u2_k (by decide)).trans ((u2_q (by decide)).trans (MX_23 hXj))) (ix_34 (j := (8 * i + 3)) (sh_218 hS) (by omega) (by omega) (by omega) (ex_4_1 (ex_0 ?_)))))))))))))))))))))
    refine ex_ic0 (fun hc127 => ?_) (fun hc127 => by exfalso; omega)
    have hXk : MX (am_u2 (am_u2 (am_u2 K 218 (8 * i) (v : Int)) 208 21 ((i : Int) + 1)) 218 (8 * i + 3) (c : Int)) b n false s l c := MX_fr hXj (fun q k hq => (u2_o (by omega)).trans ((u2_o (by omega)).trans (u2_o (by omega))))
    have hFk : MCF 218 c i I (am_u2 (am_u2 (am_u2 K 218 (8 * i) (v : Int)) 208 21 ((i : Int) + 1)) 218 (8 * i + 3) (c : Int)) := MCF_w (fun q k a b c d => (u2_o (by omega)).trans (MCF_w0 hFj q k a b c d)) (by decide)
    have h21k : (am_u2 (am_u2 (am_u2 K 218 (8 * i) (v : Int)) 208 21 ((i : Int) + 1)) 218 (8 * i + 3) (c : Int)) 208 21 = ((i + 1 : Nat) : Int) := (u2_q (by decide)).trans u2_e
    have hvk : (am_u2 (am_u2 (am_u2 K 218 (8 * i) (v : Int)) 208 21 ((i : Int) + 1)) 218 (8 * i + 3) (c : Int)) 218 (8 * i) = (v : Int) := (u2_k (by omega)).trans ((u2_q (by decide)).trans u2_e)
    have h3k : (am_u2 (am_u2 (am_u2 K 218 (8 * i) (v : Int)) 208 21 ((i : Int) + 1)) 218 (8 * i + 3) (c : Int)) 218 (8 * i + 3) = (c : Int) := u2_e
    exact cw17 hS hB hi (a1 := c) (o1 := none) hXk (Nat.le_refl _) h21k hvk hv4 ⟨fun _ => h3, fun _ => rfl⟩ h3k (fun _ => rfl) (fun f hf => (by cases hf)) hFk (by rw [hr]; unfold st1K st1; rw [if_pos h3]; rfl)
theorem cw12_x {d : Nat} {G : am_G} {I J : Nat → Nat → Int} {P : Nat → Nat → Option Nat} (hS : ST G P) {b : Nat → Int} {n : Nat} (hB : TB b n) {s l c i : Nat} {v : Nat} {r : Nat ⊕ (Nat × Nat × Oc)} (hi : i < 12) (hX : MX J b n false s l c) (h21 : J 208 21 = (i : Int)) (hv4 : v < 4) (hF : MCF 218 c i I J) (hr : r = st1K b n false v s l) (h3 : ¬ v = 3) {x : Nat} (hpv : px_sum b n false 8 s l = .inl x) : am_ex (am_call am_B am_M (d + 8)) (am_B 223) (am_B 223 12) [some (.inr (.inr (some 208))), some (.inl (v : Int)), some (.inl 4), none] [] (G, J, P) (QK G P b n false 218 ML I c i r) := by
  have hn4 := hB.1
  have hs := MX_s hX
  refine (ex_0 (ex_6_0 (ix_41i (v := (i : Int)) (sh_208 hS) h21 (ex_11e (v := ((8 * i : Nat) : Int)) ((am_mul ⟨by omega, by omega⟩).trans (by omega)) (ex_7_2 rfl (ex_0 (ex_7_3 rfl (ex_58 ?_))))))))
  refine ex_forR (b := 13) (σ := Unit) (8) (fun j u => u) (fun j u K => MX K b n false s l c ∧ K 208 21 = (i : Int) ∧ MCF 218 c i I K) (fun j u e_j => [some (.inr (.inr (some 208))), some (.inl (v : Int)), some (.inl ((8 * i : Nat) : Int)), some (.inl (j : Int))]) ?_ (8) (0) (()) (fun k_ => ([some (.inr (.inr (some 208))), some (.inl (v : Int)), some (.inl ((8 * i : Nat) : Int)), some (.inl 0)] : am_L).getD k_ none) (J) (by omega) (⟨hX, h21, hF⟩) rfl ?_
  · intro j u e_j K hij hvj hkj
    obtain ⟨hXj, h21j, hFj⟩ := hvj
    refine (ex_4_3 (ex_0 ?_))
    refine ex_ic3 (fun hc78 => by exfalso; omega) (fun hc78 => ?_)
    refine (ex_6_0 (ix_41r (sh_208 hS) (pt_208_22 hS) (ex_4_2 (ex_4_3 (ex_11e (v := ((8 * i + j : Nat) : Int)) ((am_add ⟨by omega, by omega⟩).trans (by omega)) (ex_0 (ix_34 (j := (8 * i + j)) (sh_218 hS) (by omega) (by omega) (by omega) (ex_10_3 ⟨by omega, by omega⟩ rfl (ex_28 ?_)))))))))
    exact hkj (()) (fun k_ => ([some (.inr (.inr (some 208))), some (.inl (v : Int)), some (.inl ((8 * i : Nat) : Int)), some (.inl ((j : Int) + 1))] : am_L).getD k_ none) _ (rfl) (⟨MX_fr hXj (fun q k hq => u2_o (by omega)), (u2_q (by decide)).trans h21j, MCF_w hFj hij⟩)
  · intro u e_j K hsj hvj
    obtain ⟨hXj, h21j, hFj⟩ := hvj
    refine (ex_4_3 (ex_0 ?_))
    refine ex_ic3 (fun hc78 => ?_) (fun hc78 => by exfalso; omega)
    refine (ex_6_0 (ix_41r (sh_208 hS) (pt_208_22 hS) (ex_4_2 (ex_4_1 (ix_34 (j := (8 * i)) (sh_218 hS) (by omega) (by omega) (by omega) (ex_6_0 (ex_22 rfl (ix_41i (v := (i : Int)) (sh_208 hS) ((u2_q (by decide)).trans h21j) (ex_0 (ex_add ⟨by omega, by omega⟩ (ix_42i (sh_208 hS) (ex_6_0 (ix_41r (sh_208 hS) (pt_208_22 hS) (ex_4_2 (ex_0 (ex_11e (v := ((8 * i + 3 : Nat) : Int)) ((am_add ⟨by omega, by omega⟩).trans (by omega)) (ex_6_0 (ix_41i (v := (c : Int)) (sh_208 hS) ((u2_k (by decide)).trans ((u2_q (by decide)).trans (MX_23 hXj))) (ix_34 (j := (8 * i + 3)) (sh_218 hS) (by omega) (by omega) (by omega) (ex_4_1 (ex_0 ?_)))))))))))))))))))))
    refine ex_ic0 (fun hc127 => by exfalso; omega) (fun hc127 => ?_)
    refine (ex_6_0 (ex_0 ?_))
    have hXk : MX (am_u2 (am_u2 (am_u2 K 218 (8 * i) (v : Int)) 208 21 ((i : Int) + 1)) 218 (8 * i + 3) (c : Int)) b n false s l c := MX_fr hXj (fun q k hq => (u2_o (by omega)).trans ((u2_o (by omega)).trans (u2_o (by omega))))
    have hFk : MCF 218 c i I (am_u2 (am_u2 (am_u2 K 218 (8 * i) (v : Int)) 208 21 ((i : Int) + 1)) 218 (8 * i + 3) (c : Int)) := MCF_w (fun q k a b c d => (u2_o (by omega)).trans (MCF_w0 hFj q k a b c d)) (by decide)
    have h21k : (am_u2 (am_u2 (am_u2 K 218 (8 * i) (v : Int)) 208 21 ((i : Int) + 1)) 218 (8 * i + 3) (c : Int)) 208 21 = ((i + 1 : Nat) : Int) := (u2_q (by decide)).trans u2_e
    have hvk : (am_u2 (am_u2 (am_u2 K 218 (8 * i) (v : Int)) 208 21 ((i : Int) + 1)) 218 (8 * i + 3) (c : Int)) 218 (8 * i) = (v : Int) := (u2_k (by omega)).trans ((u2_q (by decide)).trans u2_e)
    have h3k : (am_u2 (am_u2 (am_u2 K 218 (8 * i) (v : Int)) 208 21 ((i : Int) + 1)) 218 (8 * i + 3) (c : Int)) 218 (8 * i + 3) = (c : Int) := u2_e
    obtain ⟨o_, eo, qo⟩ := c_exprS (d := d + 1) hS hB hXk
    rw [hpv] at qo
    obtain ⟨J4, rfl, b4, x4, f4, y4, hy4, -⟩ := qo
    refine (ix_46 (S' := []) rfl (sh_208 hS) eo rfl rfl (ex_58 ?_))
    exact cw17_bad (s := s) (l := l) (c := c) hS hB hi b4 x4 hy4 (MLF_trans (MLF_MCF hFk (Or.inl rfl)) (MLF_MFr f4)) (by rw [hr]; unfold st1K st1; rw [if_neg h3, hpv]; rfl)
theorem cw12_s {d : Nat} {G : am_G} {I J : Nat → Nat → Int} {P : Nat → Nat → Option Nat} (hS : ST G P) {b : Nat → Int} {n : Nat} (hB : TB b n) {s l c i : Nat} {v : Nat} {r : Nat ⊕ (Nat × Nat × Oc)} (hi : i < 12) (hX : MX J b n false s l c) (h21 : J 208 21 = (i : Int)) (hv4 : v < 4) (hF : MCF 218 c i I J) (hr : r = st1K b n false v s l) (h3 : ¬ v = 3) {s4 l4 : Nat} {g : Fn} (hpv : px_sum b n false 8 s l = .inr (s4, l4, g)) (hVg : Vs g) : am_ex (am_call am_B am_M (d + 8)) (am_B 223) (am_B 223 12) [some (.inr (.inr (some 208))), some (.inl (v : Int)), some (.inl 4), none] [] (G, J, P) (QK G P b n false 218 ML I c i r) := by
  have hn4 := hB.1
  have hs := MX_s hX
  refine (ex_0 (ex_6_0 (ix_41i (v := (i : Int)) (sh_208 hS) h21 (ex_11e (v := ((8 * i : Nat) : Int)) ((am_mul ⟨by omega, by omega⟩).trans (by omega)) (ex_7_2 rfl (ex_0 (ex_7_3 rfl (ex_58 ?_))))))))
  refine ex_forR (b := 13) (σ := Unit) (8) (fun j u => u) (fun j u K => MX K b n false s l c ∧ K 208 21 = (i : Int) ∧ MCF 218 c i I K) (fun j u e_j => [some (.inr (.inr (some 208))), some (.inl (v : Int)), some (.inl ((8 * i : Nat) : Int)), some (.inl (j : Int))]) ?_ (8) (0) (()) (fun k_ => ([some (.inr (.inr (some 208))), some (.inl (v : Int)), some (.inl ((8 * i : Nat) : Int)), some (.inl 0)] : am_L).getD k_ none) (J) (by omega) (⟨hX, h21, hF⟩) rfl ?_
  · intro j u e_j K hij hvj hkj
    obtain ⟨hXj, h21j, hFj⟩ := hvj
    refine (ex_4_3 (ex_0 ?_))
    refine ex_ic3 (fun hc78 => by exfalso; omega) (fun hc78 => ?_)
    refine (ex_6_0 (ix_41r (sh_208 hS) (pt_208_22 hS) (ex_4_2 (ex_4_3 (ex_11e (v := ((8 * i + j : Nat) : Int)) ((am_add ⟨by omega, by omega⟩).trans (by omega)) (ex_0 (ix_34 (j := (8 * i + j)) (sh_218 hS) (by omega) (by omega) (by omega) (ex_10_3 ⟨by omega, by omega⟩ rfl (ex_28 ?_)))))))))
    exact hkj (()) (fun k_ => ([some (.inr (.inr (some 208))), some (.inl (v : Int)), some (.inl ((8 * i : Nat) : Int)), some (.inl ((j : Int) + 1))] : am_L).getD k_ none) _ (rfl) (⟨MX_fr hXj (fun q k hq => u2_o (by omega)), (u2_q (by decide)).trans h21j, MCF_w hFj hij⟩)
  · intro u e_j K hsj hvj
    obtain ⟨hXj, h21j, hFj⟩ := hvj
    refine (ex_4_3 (ex_0 ?_))
    refine ex_ic3 (fun hc78 => ?_) (fun hc78 => by exfalso; omega)
    refine (ex_6_0 (ix_41r (sh_208 hS) (pt_208_22 hS) (ex_4_2 (ex_4_1 (ix_34 (j := (8 * i)) (sh_218 hS) (by omega) (by omega) (by omega) (ex_6_0 (ex_22 rfl (ix_41i (v := (i : Int)) (sh_208 hS) ((u2_q (by decide)).trans h21j) (ex_0 (ex_add ⟨by omega, by omega⟩ (ix_42i (sh_208 hS) (ex_6_0 (ix_41r (sh_208 hS) (pt_208_22 hS) (ex_4_2 (ex_0 (ex_11e (v := ((8 * i + 3 : Nat) : Int)) ((am_add ⟨by omega, by omega⟩).trans (by omega)) (ex_6_0 (ix_41i (v := (c : Int)) (sh_208 hS) ((u2_k (by decide)).trans ((u2_q (by decide)).trans (MX_23 hXj))) (ix_34 (j := (8 * i + 3)) (sh_218 hS) (by omega) (by omega) (by omega) (ex_4_1 (ex_0 ?_)))))))))))))))))))))
    refine ex_ic0 (fun hc127 => by exfalso; omega) (fun hc127 => ?_)
    refine (ex_6_0 (ex_0 ?_))
    have hXk : MX (am_u2 (am_u2 (am_u2 K 218 (8 * i) (v : Int)) 208 21 ((i : Int) + 1)) 218 (8 * i + 3) (c : Int)) b n false s l c := MX_fr hXj (fun q k hq => (u2_o (by omega)).trans ((u2_o (by omega)).trans (u2_o (by omega))))
    have hFk : MCF 218 c i I (am_u2 (am_u2 (am_u2 K 218 (8 * i) (v : Int)) 208 21 ((i : Int) + 1)) 218 (8 * i + 3) (c : Int)) := MCF_w (fun q k a b c d => (u2_o (by omega)).trans (MCF_w0 hFj q k a b c d)) (by decide)
    have h21k : (am_u2 (am_u2 (am_u2 K 218 (8 * i) (v : Int)) 208 21 ((i : Int) + 1)) 218 (8 * i + 3) (c : Int)) 208 21 = ((i + 1 : Nat) : Int) := (u2_q (by decide)).trans u2_e
    have hvk : (am_u2 (am_u2 (am_u2 K 218 (8 * i) (v : Int)) 208 21 ((i : Int) + 1)) 218 (8 * i + 3) (c : Int)) 218 (8 * i) = (v : Int) := (u2_k (by omega)).trans ((u2_q (by decide)).trans u2_e)
    have h3k : (am_u2 (am_u2 (am_u2 K 218 (8 * i) (v : Int)) 208 21 ((i : Int) + 1)) 218 (8 * i + 3) (c : Int)) 218 (8 * i + 3) = (c : Int) := u2_e
    obtain ⟨o_, eo, qo⟩ := c_exprS (d := d + 1) hS hB hXk
    rw [hpv] at qo
    obtain ⟨J4, c4, rfl, hX4, hM4, f4⟩ := qo
    refine (ix_46 (S' := []) rfl (sh_208 hS) eo rfl rfl (ex_58 ?_))
    have hcc := hM4.1
    have f34 : ∀ q k, q = 218 ∨ ((q = 219 ∨ q = 220) ∧ k < c) ∨ (q = 208 ∧ k = 21) → J4 q k = (am_u2 (am_u2 (am_u2 K 218 (8 * i) (v : Int)) 208 21 ((i : Int) + 1)) 218 (8 * i + 3) (c : Int)) q k := fun q k hq => f4 q k (by omega) (by omega) (by omega)
    exact cw17 hS hB hi (a1 := c) (o1 := some g) hX4 (by omega) ((f34 _ _ (by omega)).trans h21k) ((f34 _ _ (by omega)).trans hvk) hv4 ⟨fun hh => (by cases hh), fun hh => absurd hh h3⟩ ((f34 _ _ (by omega)).trans h3k) (fun hh => (by cases hh)) (fun f hf => by cases hf; exact ⟨hM4, hVg⟩) (MCF_M hFk f4 (Nat.le_refl _)) (by rw [hr]; unfold st1K st1; rw [if_neg h3, hpv]; rfl)
