/-! ===== clauses: what they mean ===== -/
/-- verb, first, second, times, test -/
abbrev Oc : Type := Nat × Option Fn × Option Fn × Nat × Option Fn
def bnd {α β : Type} (r : Nat ⊕ α) (k : α → Nat ⊕ β) : Nat ⊕ β := match r with
  | .inl x => .inl x
  | .inr a => k a
def vrb (od : Bool) (t : List Int) : Int := if od = true then ooI [[114, 105, 110, 103], [101, 110, 103, 97, 103, 101], [115, 109, 97, 115, 104], [112, 97, 115, 115]] 0 t else ooI [[116, 101, 108, 108, 115], [115, 111, 97, 107, 115], [103, 111, 101, 115], [98, 97, 114, 115]] 0 t
def st_w (q : Nat × Nat × Fn) : Nat ⊕ (Nat × Nat × Option Fn) := .inr (q.1, q.2.1, some q.2.2)
def st1 (b : Nat → Int) (n : Nat) (od : Bool) (v : Nat) (s l : Nat) : Nat ⊕ (Nat × Nat × Option Fn) := if v = 3 then .inr (s, l, none) else bnd (px_sum b n od 8 s l) st_w
def st2 (b : Nat → Int) (n : Nat) (od : Bool) (v : Nat) (s l : Nat) : Nat ⊕ (Nat × Nat × Option Fn) := if v = 0 then (if tk b n s = [116, 111] then bnd (px_sum b n od 8 (nx b n s) l) st_w else .inl s) else .inr (s, l, none)
def st3 (b : Nat → Int) (n : Nat) (s : Nat) : Nat ⊕ (Nat × Nat) := if tk b n s = [116, 105, 109, 101, 115] then (if 1 ≤ num b n (nx b n s) ∧ num b n (nx b n s) ≤ 20 then .inr (nx b n (nx b n s), (num b n (nx b n s)).toNat) else .inl (nx b n s)) else .inr (s, 1)
def st23 (b : Nat → Int) (n : Nat) (od : Bool) (v : Nat) (s l : Nat) : Nat ⊕ (Nat × Nat × Option Fn × Nat) := bnd (st2 b n od v s l) (fun c => bnd (st3 b n c.1) (fun t => .inr (t.1, c.2.1, c.2.2, t.2)))
def stO (b : Nat → Int) (n : Nat) (od : Bool) (v : Nat) (s l : Nat) : Nat ⊕ (Nat × Nat × Option Fn × Nat) := if od = true then st23 b n od v s l else .inr (s, l, none, 1)
def st4 (b : Nat → Int) (n : Nat) (od : Bool) (s l : Nat) : Nat ⊕ (Nat × Nat × Option Fn) := if tk b n s = [105, 102] then bnd (px_test b n od 8 (nx b n s) l) st_w else .inr (s, l, none)
def st4K (b : Nat → Int) (n : Nat) (od : Bool) (v : Nat) (o1 o2 : Option Fn) (t s l : Nat) : Nat ⊕ (Nat × Nat × Oc) := bnd (st4 b n od s l) (fun e => .inr (e.1, e.2.1, (v, o1, o2, t, e.2.2)))
def stOK (b : Nat → Int) (n : Nat) (od : Bool) (v : Nat) (o1 : Option Fn) (s l : Nat) : Nat ⊕ (Nat × Nat × Oc) := bnd (stO b n od v s l) (fun c => st4K b n od v o1 c.2.2.1 c.2.2.2 c.1 c.2.1)
def st1K (b : Nat → Int) (n : Nat) (od : Bool) (v : Nat) (s l : Nat) : Nat ⊕ (Nat × Nat × Oc) := bnd (st1 b n od v s l) (fun a => stOK b n od v a.2.2 a.1 a.2.1)
def px_cl (b : Nat → Int) (n : Nat) (od : Bool) (s l : Nat) : Nat ⊕ (Nat × Nat × Oc) := if vrb od (tk b n s) = -1 then .inl s else st1K b n od (vrb od (tk b n s)).toNat (nx b n s) l
def px_cls (b : Nat → Int) (n : Nat) (od : Bool) : Nat → Nat → Nat → Nat → (Nat → Oc) → Nat ⊕ (Nat × (Nat → Oc))
  | 0, s, _, _, _ => .inl s
  | k + 1, s, l, i, cl => match px_cl b n od s l with
    | .inl x => .inl x
    | .inr (s', l', c) => if s' = n then .inr (i + 1, am_u1 cl i c) else if tk b n s' = [59] then px_cls b n od k (nx b n s') l' (i + 1) (am_u1 cl i c) else .inl s'
def px_text (b : Nat → Int) (n : Nat) (od : Bool) : Nat ⊕ (Nat × (Nat → Oc)) := px_cls b n od 12 (sk b n 0) 0 0 (fun _ => (0, none, none, 0, none))
theorem Vt_Vs {f : Fn} (h : Vt f) : Vs f := by
  intro w hw v e
  rcases h w hw with h | h | h <;> rw [h] at e <;> cases e <;> exact ⟨by decide, by decide⟩
/-- a sum, a test of a clause, as it lies in the draft -/
def OF (od : Bool) (F : Nat → Int) (z : Nat) (x : Int) (o : Option Fn) : Prop := match o with
  | none => x = -1
  | some f => ∃ a c : Nat, x = (a : Int) ∧ SG od F a c 32 f ∧ F c = 0 ∧ c < z ∧ c ≤ 400 ∧ Vs f
theorem OF_mono {od : Bool} {F F' : Nat → Int} {z z' : Nat} {x : Int} {o : Option Fn} (h : OF od F z x o) (hF : ∀ k, k < z → F' k = F k) (hz : z ≤ z') : OF od F' z' x o := by
  cases o with
  | none => exact h
  | some f =>
    obtain ⟨a, c, h1, h2, h3, h4, h5, h6⟩ := h
    exact ⟨a, c, h1, SG_congr h2 (fun k _ hk => hF k (by omega)), (hF c h4).trans h3, by omega, h5, h6⟩
def DC (od : Bool) (I : Nat → Nat → Int) (z i : Nat) (c : Oc) : Prop := I 163 i = (c.1 : Int) ∧ c.1 < 4 ∧ OF od (I 168) z (I 164 i) c.2.1 ∧ OF od (I 168) z (I 165 i) c.2.2.1 ∧ I 166 i = (c.2.2.2.1 : Int) ∧ OF od (I 168) z (I 167 i) c.2.2.2.2
theorem DC_mono {od : Bool} {I J : Nat → Nat → Int} {z z' i : Nat} {c : Oc} (h : DC od I z i c) (h1 : ∀ q, 163 ≤ q → q ≤ 167 → J q i = I q i) (hF : ∀ k, k < z → J 168 k = I 168 k) (hz : z ≤ z') : DC od J z' i c := by
  obtain ⟨a, b, c1, c2, c3, c4⟩ := h
  refine ⟨(h1 163 (by decide) (by decide)).trans a, b, ?_, ?_, (h1 166 (by decide) (by decide)).trans c3, ?_⟩
  · rw [h1 164 (by decide) (by decide)]; exact OF_mono c1 hF hz
  · rw [h1 165 (by decide) (by decide)]; exact OF_mono c2 hF hz
  · rw [h1 167 (by decide) (by decide)]; exact OF_mono c4 hF hz
def CF (z i : Nat) (I J : Nat → Nat → Int) : Prop := ∀ q k, ¬ (q = 169 ∧ 2 ≤ k ∧ k ≤ 4) → ¬ (q = 161 ∧ (k = 3 ∨ k = 4)) → ¬ (q = 162 ∧ (k = 5 ∨ k = 7)) → ¬ (q = 168 ∧ z ≤ k) → ¬ (163 ≤ q ∧ q ≤ 167 ∧ k = i) → J q k = I q k
theorem CF_R {z y i : Nat} {I J K : Nat → Nat → Int} (h : CF z i I J) (h2 : RFr y J K) (hz : z ≤ y) : CF z i I K := fun q k a b c d e => (h2 q k a b (by omega) (by omega)).trans (h q k a b c d e)
theorem CF_T {z i : Nat} {I J K : Nat → Nat → Int} (h : CF z i I J) (h2 : TKF J K) : CF z i I K := fun q k a b c d e => (h2 q k a).trans (h q k a b c d e)
theorem CF_w {z i q : Nat} {v : Int} {I J : Nat → Nat → Int} (h : CF z i I J) (hq : 163 ≤ q ∧ q ≤ 167) : CF z i I (am_u2 J q i v) := fun q' k a b c d e => (u2_o (by omega)).trans (h q' k a b c d e)
theorem RS_w {I : Nat → Nat → Int} {P : Nat → Nat → Option Nat} {b : Nat → Int} {n : Nat} {od : Bool} {s l z q i : Nat} {v : Int} (h : RS I P b n od s l z) (hq : 163 ≤ q ∧ q ≤ 167) : RS (am_u2 I q i v) P b n od s l z := by
  obtain ⟨hT, hs, h50, h3, h2, h7, hz0, hc, hK⟩ := h
  exact ⟨TK_fr hT (fun q' k hq' => u2_q (by omega)), hs, h50, (u2_q (by omega)).trans h3, (u2_q (by omega)).trans h2, (u2_q (by omega)).trans h7, hz0, fun k hk => by rw [u2_q (by omega)]; exact hc k hk, KS_fr hK (fun q' k hq' => u2_q (by omega))⟩
def QC (G : am_G) (P : Nat → Nat → Option Nat) (b : Nat → Int) (n : Nat) (od : Bool) (I : Nat → Nat → Int) (z i : Nat) (r : Nat ⊕ (Nat × Nat × Oc)) (o : am_O) : Prop := match r with
  | .inl x => ∃ I2, o = (some (.inl 0), (G, I2, P)) ∧ I2 161 4 = (x : Int) ∧ CF z i I I2
  | .inr (s', l', c) => ∃ I2 z2, o = (some (.inl 1), (G, I2, P)) ∧ RS I2 P b n od s' l' z2 ∧ z ≤ z2 ∧ I2 162 5 = ((i + 1 : Nat) : Int) ∧ DC od I2 z2 i c ∧ CF z i I I2
def QO (G : am_G) (P : Nat → Nat → Option Nat) (b : Nat → Int) (n : Nat) (od : Bool) (I : Nat → Nat → Int) (z i v : Nat) (o1 : Option Fn) (r : Nat ⊕ (Nat × Nat × Option Fn × Nat)) (o : am_O) : Prop := match r with
  | .inl x => ∃ I2, o = (some (.inl 0), (G, I2, P)) ∧ I2 161 4 = (x : Int) ∧ CF z i I I2
  | .inr (s', l', o2, t) => ∃ I2 z2, o = (some (.inl 1), (G, I2, P)) ∧ RS I2 P b n od s' l' z2 ∧ z ≤ z2 ∧ I2 162 5 = ((i + 1 : Nat) : Int) ∧ DC od I2 z2 i (v, o1, o2, t, none) ∧ CF z i I I2
section
variable {G : am_G} {P : Nat → Nat → Option Nat} {b : Nat → Int} {n : Nat} {od : Bool} {I I2 : Nat → Nat → Int} {z i v z2 s' l' t x : Nat} {o1 o2 : Option Fn} {c : Oc}
theorem QC_inr {r : Nat ⊕ (Nat × Nat × Oc)} (h : r = .inr (s', l', c)) (h1 : RS I2 P b n od s' l' z2) (h2 : z ≤ z2) (h3 : I2 162 5 = ((i + 1 : Nat) : Int)) (h4 : DC od I2 z2 i c) (h5 : CF z i I I2) : QC G P b n od I z i r (some (.inl 1), (G, I2, P)) := by
  subst h
  exact ⟨I2, z2, rfl, h1, h2, h3, h4, h5⟩
theorem QC_inl {r : Nat ⊕ (Nat × Nat × Oc)} (h : r = .inl x) (h1 : I2 161 4 = (x : Int)) (h2 : CF z i I I2) : QC G P b n od I z i r (some (.inl 0), (G, I2, P)) := by
  subst h
  exact ⟨I2, rfl, h1, h2⟩
theorem QO_inr {r : Nat ⊕ (Nat × Nat × Option Fn × Nat)} (h : r = .inr (s', l', o2, t)) (h1 : RS I2 P b n od s' l' z2) (h2 : z ≤ z2) (h3 : I2 162 5 = ((i + 1 : Nat) : Int)) (h4 : DC od I2 z2 i (v, o1, o2, t, none)) (h5 : CF z i I I2) : QO G P b n od I z i v o1 r (some (.inl 1), (G, I2, P)) := by
  subst h
  exact ⟨I2, z2, rfl, h1, h2, h3, h4, h5⟩
theorem QO_inl {r : Nat ⊕ (Nat × Nat × Option Fn × Nat)} (h : r = .inl x) (h1 : I2 161 4 = (x : Int)) (h2 : CF z i I I2) : QO G P b n od I z i v o1 r (some (.inl 0), (G, I2, P)) := by
  subst h
  exact ⟨I2, rfl, h1, h2⟩
end
/-- where a clause stands while it is read -/
def CL (I J : Nat → Nat → Int) (P : Nat → Nat → Option Nat) (b : Nat → Int) (n : Nat) (od : Bool) (z i s l y : Nat) (c : Oc) : Prop := RS J P b n od s l y ∧ z ≤ y ∧ i < 12 ∧ J 162 5 = ((i + 1 : Nat) : Int) ∧ DC od J y i c ∧ CF z i I J
/-- what a sum, a test that was read leaves: its END comes behind it -/
theorem CL_end {I J J3 : Nat → Nat → Int} {P : Nat → Nat → Option Nat} {b : Nat → Int} {n : Nat} {od : Bool} {z i s l y q s3 l3 y3 D : Nat} {c c' : Oc} {f : Fn} (hB : TB b n) (h : CL I J P b n od z i s l y c) (hys : y < s) (hq : q = 164 ∨ q = 165 ∨ q = 167) (r3 : RS J3 P b n od s3 l3 y3) (hz3 : y3 + s ≤ y + s3) (hS3 : SG od (J3 168) y y3 D f) (hD : D ≤ 32) (hV : Vs f) (f3 : RFr y (am_u2 J q i (y : Int)) J3)
    (hc : c'.1 = c.1 ∧ c'.2.2.2.1 = c.2.2.2.1 ∧ c'.2.1 = (if q = 164 then some f else c.2.1) ∧ c'.2.2.1 = (if q = 165 then some f else c.2.2.1) ∧ c'.2.2.2.2 = (if q = 167 then some f else c.2.2.2.2)) : CL I (am_u2 (am_u2 J3 168 y3 ((0 * 16 + 0 : Nat) : Int)) 162 7 ((y3 : Int) + 1)) P b n od z i s3 l3 (y3 + 1) c' := by
  obtain ⟨hR, hzy, hi, h5, hD0, hF⟩ := h
  have h1 := hS3.1
  have hs3 := RS_s r3
  have hn4 := hB.1
  have row : ∀ q', 163 ≤ q' → q' ≤ 167 → am_u2 (am_u2 J3 168 y3 ((0 * 16 + 0 : Nat) : Int)) 162 7 ((y3 : Int) + 1) q' i = if q' = q then (y : Int) else J q' i := by
    intro q' a1 a2
    rw [u2_q (by omega), u2_q (by omega), f3 q' i (by omega) (by omega) (by omega) (by omega)]
    by_cases e : q' = q
    · rw [if_pos e, e, u2_e]
    · rw [if_neg e, u2_q e]
  have cod : ∀ k, k < y → am_u2 (am_u2 J3 168 y3 ((0 * 16 + 0 : Nat) : Int)) 162 7 ((y3 : Int) + 1) 168 k = J 168 k := by
    intro k hk
    rw [u2_q (by decide), u2_k (by omega), f3 168 k (by omega) (by omega) (by omega) (by omega), u2_q (by omega)]
  have seg : OF od (am_u2 (am_u2 J3 168 y3 ((0 * 16 + 0 : Nat) : Int)) 162 7 ((y3 : Int) + 1) 168) (y3 + 1) (y : Int) (some f) := ⟨y, y3, rfl, SG_more (SG_congr hS3 (fun k a e => (u2_q (by decide)).trans (u2_k (by omega)))) hD, (u2_q (by decide)).trans u2_e, by omega, by omega, hV⟩
  obtain ⟨d1, d2, d3, d4, d5, d6⟩ := hD0
  refine ⟨RS_add r3 (by omega) (by decide), by omega, hi, ?_, ⟨?_, by rw [hc.1]; exact d2, ?_, ?_, ?_, ?_⟩, ?_⟩
  · rw [u2_k (by decide), u2_q (by decide), f3 162 5 (by decide) (by decide) (by decide) (by omega), u2_q (by omega)]
    exact h5
  · rw [row 163 (by decide) (by decide), if_neg (by omega), hc.1]; exact d1
  · rw [row 164 (by decide) (by decide), hc.2.2.1]
    by_cases e : 164 = q
    · rw [if_pos e, if_pos e.symm]; exact seg
    · rw [if_neg e, if_neg (Ne.symm e)]; exact OF_mono d3 cod (by omega)
  · rw [row 165 (by decide) (by decide), hc.2.2.2.1]
    by_cases e : 165 = q
    · rw [if_pos e, if_pos e.symm]; exact seg
    · rw [if_neg e, if_neg (Ne.symm e)]; exact OF_mono d4 cod (by omega)
  · rw [row 166 (by decide) (by decide), if_neg (by omega), hc.2.1]; exact d5
  · rw [row 167 (by decide) (by decide), hc.2.2.2.2]
    by_cases e : 167 = q
    · rw [if_pos e, if_pos e.symm]; exact seg
    · rw [if_neg e, if_neg (Ne.symm e)]; exact OF_mono d6 cod (by omega)
  · exact CF_R (CF_R (CF_w hF (by omega)) f3 hzy) (RFr_add (by omega)) hzy
theorem CL_T {I J K : Nat → Nat → Int} {P : Nat → Nat → Option Nat} {b : Nat → Int} {n : Nat} {od : Bool} {z i s l y s1 : Nat} {c : Oc} (h : CL I J P b n od z i s l y c) (r : RS K P b n od s1 l y) (f : TKF J K) : CL I K P b n od z i s1 l y c := ⟨r, h.2.1, h.2.2.1, (f _ _ (by decide)).trans h.2.2.2.1, DC_mono h.2.2.2.2.1 (fun q a1 a2 => f _ _ (by omega)) (fun k _ => f _ _ (by omega)) (Nat.le_refl _), CF_T h.2.2.2.2.2 f⟩
theorem k_addClause {d : Nat} {G : am_G} {I : Nat → Nat → Int} {P : Nat → Nat → Option Nat} (hS : ST G P) {i v : Nat} (h5 : I 162 5 = (i : Int)) (hi : i < 12) : am_call am_B am_M (d + 1) 92 [(.inr (.inr (some 162))), (.inl (v : Int))] (G, I, P) = some (none, (G, (am_u2 (am_u2 (am_u2 (am_u2 (am_u2 (am_u2 I 163 i (v : Int)) 164 i (-1)) 165 i (-1)) 166 i 1) 167 i (-1)) 162 5 ((i : Int) + 1)), P)) := by
  refine am_doL (L := [some (.inr (.inr (some 162))), some (.inl (v : Int))]) (Nat.le_of_ble_eq_true rfl) rfl ?_
  refine (ex_6_0 (ix_41r (sh_162 hS) (pt_162_0 hS) (ex_6_0 (ix_41i (v := (i : Int)) (sh_162 hS) h5 (ex_4_1 (ix_34 (j := i) (sh_163 hS) (by omega) (by omega) (by omega) (ex_6_0 (ix_41r (sh_162 hS) (pt_162_1 hS) (ex_6_0 (ix_41i (v := (i : Int)) (sh_162 hS) ((u2_q (by decide)).trans h5) (ex_0 (ix_34 (j := i) (sh_164 hS) (by omega) (by omega) (by omega) (ex_6_0 (ix_41r (sh_162 hS) (pt_162_2 hS) (ex_6_0 (ix_41i (v := (i : Int)) (sh_162 hS) ((u2_q (by decide)).trans ((u2_q (by decide)).trans h5)) (ex_0 (ix_34 (j := i) (sh_165 hS) (by omega) (by omega) (by omega) (ex_6_0 (ix_41r (sh_162 hS) (pt_162_3 hS) (ex_6_0 (ix_41i (v := (i : Int)) (sh_162 hS) ((u2_q (by decide)).trans ((u2_q (by decide)).trans ((u2_q (by decide)).trans h5))) (ex_0 (ix_34 (j := i) (sh_166 hS) (by omega) (by omega) (by omega) (ex_6_0 (ix_41r (sh_162 hS) (pt_162_4 hS) (ex_6_0 (ix_41i (v := (i : Int)) (sh_162 hS) ((u2_q (by decide)).trans ((u2_q (by decide)).trans ((u2_q (by decide)).trans ((u2_q (by decide)).trans h5)))) (ex_0 (ix_34 (j := i) (sh_167 hS) (by omega) (by omega) (by omega) (ex_6_0 (ex_22 rfl (ix_41i (v := (i : Int)) (sh_162 hS) ((u2_q (by decide)).trans ((u2_q (by decide)).trans ((u2_q (by decide)).trans ((u2_q (by decide)).trans ((u2_q (by decide)).trans h5))))) (ex_0 (ex_add ⟨by omega, by omega⟩ (ix_42i (sh_162 hS) ?_))))))))))))))))))))))))))))))))))))
  exact ex_56 rfl
theorem kc4_n {d : Nat} {G : am_G} {I J : Nat → Nat → Int} {P : Nat → Nat → Option Nat} (hS : ST G P) {b : Nat → Int} {n : Nat} (hB : TB b n) {od : Bool} {z i s l y : Nat} {v t : Nat} {o1 o2 : Option Fn} (hC : CL I J P b n od z i s l y (v, o1, o2, t, none)) (hif : ¬ tk b n s = [105, 102]) : am_ex (am_call am_B am_M (d + 36)) (am_B 65) (am_B 65 12) [some (.inr (.inr (some 161))), some (.inl (i : Int)), some (.inl (v : Int))] [] (G, J, P) (QC G P b n od I z i (st4K b n od v o1 o2 t s l)) := by
  obtain ⟨hR, hzy, hi, h5, hD0, hF⟩ := id hC
  have hs := RS_s hR
  refine (ex_6_0 (ix_41r (sh_161 hS) (pt_161_1 hS) (ex_3 (ix_46 (S' := [(.inl 0)]) rfl (sh_169 hS) (k_is_13_f hS (RS_K hR) hB (RS_T hR) (RS_s hR) hif) rfl rfl (ex_if0 (fun _ => ?_) (fun hc => by exfalso; revert hc; decide))))))
  refine (ex_0 ?_)
  exact ex_57 (by decide) (QC_inr (by unfold st4K st4; rw [if_neg hif]; rfl) hR hzy h5 hD0 hF)
theorem kc4_x {d : Nat} {G : am_G} {I J : Nat → Nat → Int} {P : Nat → Nat → Option Nat} (hS : ST G P) {b : Nat → Int} {n : Nat} (hB : TB b n) {od : Bool} {z i s l y : Nat} {v t : Nat} {o1 o2 : Option Fn} (hC : CL I J P b n od z i s l y (v, o1, o2, t, none)) (hif : tk b n s = [105, 102]) {x : Nat} (hpv : px_test b n od 8 (nx b n s) l = .inl x) : am_ex (am_call am_B am_M (d + 36)) (am_B 65) (am_B 65 12) [some (.inr (.inr (some 161))), some (.inl (i : Int)), some (.inl (v : Int))] [] (G, J, P) (QC G P b n od I z i (st4K b n od v o1 o2 t s l)) := by
  obtain ⟨hR, hzy, hi, h5, hD0, hF⟩ := id hC
  have hs := RS_s hR
  have hlt := tk_lt hs hif
  have hnx := nx_2 (b := b) s hlt
  have hys := RS_z hR
  have htest := kr_tests hS hB (od := od) 8 d (by decide)
  refine (ex_6_0 (ix_41r (sh_161 hS) (pt_161_1 hS) (ex_3 (ix_46 (S' := [(.inl 1)]) rfl (sh_169 hS) (k_is_13_t hS (RS_K hR) hB (RS_T hR) (RS_s hR) hif) rfl rfl (ex_if0 (fun hc => by exfalso; revert hc; decide) (fun _ => ?_))))))
  refine (ex_6_0 (ix_41r (sh_161 hS) (pt_161_1 hS) ?_))
  obtain ⟨J2, e2, r2, f2⟩ := RS_step (d := d + 34) hS hB hR hlt
  refine (ix_46 (S' := []) rfl (sh_169 hS) e2 rfl rfl (ex_6_0 (ix_41r (sh_161 hS) (pt_161_0 hS) (ix_41r (sh_162 hS) (pt_162_4 hS) (ex_4_1 (ex_6_0 (ix_41r (sh_161 hS) (pt_161_0 hS) (ix_46 (S' := [(.inl (y : Int)), (.inl (i : Int)), (.inr (.inr (some 167)))]) rfl (sh_162 hS) (k_textNext hS (RS_7 r2)) rfl rfl (ix_34 (j := i) (sh_167 hS) (by omega) (by omega) (by omega) (ex_6_0 (ex_0 ?_)))))))))))
  have r2w : RS (am_u2 J2 167 i (y : Int)) P b n od (nx b n s) l y := RS_w r2 (by decide)
  obtain ⟨o_, eo, qo⟩ := htest _ _ _ _ r2w
  rw [hpv] at qo
  obtain ⟨J3, rfl, hx3, f3⟩ := qo
  refine (ix_46 (S' := [(.inl 0)]) rfl (sh_161 hS) eo rfl rfl (ex_if1 (fun hc => by exfalso; revert hc; decide) (fun _ => ?_)))
  refine (ex_0 ?_)
  exact ex_57 (by decide) (QC_inl (by unfold st4K st4; rw [if_pos hif, hpv]; rfl) hx3 (CF_R (CF_w (CF_T hF f2) (by decide)) f3 hzy))
theorem kc4_s {d : Nat} {G : am_G} {I J : Nat → Nat → Int} {P : Nat → Nat → Option Nat} (hS : ST G P) {b : Nat → Int} {n : Nat} (hB : TB b n) {od : Bool} {z i s l y : Nat} {v t : Nat} {o1 o2 : Option Fn} (hC : CL I J P b n od z i s l y (v, o1, o2, t, none)) (hif : tk b n s = [105, 102]) {s3 l3 : Nat} {f : Fn} (hpv : px_test b n od 8 (nx b n s) l = .inr (s3, l3, f)) (hV : Vs f) : am_ex (am_call am_B am_M (d + 36)) (am_B 65) (am_B 65 12) [some (.inr (.inr (some 161))), some (.inl (i : Int)), some (.inl (v : Int))] [] (G, J, P) (QC G P b n od I z i (st4K b n od v o1 o2 t s l)) := by
  obtain ⟨hR, hzy, hi, h5, hD0, hF⟩ := id hC
  have hs := RS_s hR
  have hlt := tk_lt hs hif
  have hnx := nx_2 (b := b) s hlt
  have hys := RS_z hR
  have htest := kr_tests hS hB (od := od) 8 d (by decide)
  refine (ex_6_0 (ix_41r (sh_161 hS) (pt_161_1 hS) (ex_3 (ix_46 (S' := [(.inl 1)]) rfl (sh_169 hS) (k_is_13_t hS (RS_K hR) hB (RS_T hR) (RS_s hR) hif) rfl rfl (ex_if0 (fun hc => by exfalso; revert hc; decide) (fun _ => ?_))))))
  refine (ex_6_0 (ix_41r (sh_161 hS) (pt_161_1 hS) ?_))
  obtain ⟨J2, e2, r2, f2⟩ := RS_step (d := d + 34) hS hB hR hlt
  refine (ix_46 (S' := []) rfl (sh_169 hS) e2 rfl rfl (ex_6_0 (ix_41r (sh_161 hS) (pt_161_0 hS) (ix_41r (sh_162 hS) (pt_162_4 hS) (ex_4_1 (ex_6_0 (ix_41r (sh_161 hS) (pt_161_0 hS) (ix_46 (S' := [(.inl (y : Int)), (.inl (i : Int)), (.inr (.inr (some 167)))]) rfl (sh_162 hS) (k_textNext hS (RS_7 r2)) rfl rfl (ix_34 (j := i) (sh_167 hS) (by omega) (by omega) (by omega) (ex_6_0 (ex_0 ?_)))))))))))
  have r2w : RS (am_u2 J2 167 i (y : Int)) P b n od (nx b n s) l y := RS_w r2 (by decide)
  obtain ⟨o_, eo, qo⟩ := htest _ _ _ _ r2w
  rw [hpv] at qo
  obtain ⟨J3, y3, rfl, r3, hz3, hS3, f3⟩ := qo
  refine (ix_46 (S' := [(.inl 1)]) rfl (sh_161 hS) eo rfl rfl (ex_if1 (fun _ => ?_) (fun hc => by exfalso; revert hc; decide)))
  refine (ex_6_0 (ix_41r (sh_161 hS) (pt_161_0 hS) (ex_0 (ex_0 (ix_46 (S' := []) rfl (sh_162 hS) (k_add hS (z := y3) (sg := 0) (tl := 0) (RS_7 r3) (by have := RS_s r3; have := RS_z r3; have := hB.1; omega) (by decide) (by decide)) rfl rfl (ex_58 (ex_0 ?_)))))))
  exact ex_57 (by decide) (by obtain ⟨g1, g2, g3, g4, g5, g6⟩ := CL_end (c' := (v, o1, o2, t, some f)) hB (CL_T hC r2 f2) (by omega) (Or.inr (Or.inr rfl)) r3 hz3 hS3 (by decide) hV f3 ⟨rfl, rfl, rfl, rfl, rfl⟩; exact QC_inr (by unfold st4K st4; rw [if_pos hif, hpv]; rfl) g1 g2 g4 g5 g6)
theorem kc4 {d : Nat} {G : am_G} {I J : Nat → Nat → Int} {P : Nat → Nat → Option Nat} (hS : ST G P) {b : Nat → Int} {n : Nat} (hB : TB b n) {od : Bool} {z i s l y : Nat} {v t : Nat} {o1 o2 : Option Fn} (hC : CL I J P b n od z i s l y (v, o1, o2, t, none)) : am_ex (am_call am_B am_M (d + 36)) (am_B 65) (am_B 65 12) [some (.inr (.inr (some 161))), some (.inl (i : Int)), some (.inl (v : Int))] [] (G, J, P) (QC G P b n od I z i (st4K b n od v o1 o2 t s l)) := by
  have hs := RS_s hC.1
  by_cases hif : tk b n s = [105, 102]
  · have hnx := nx_2 (b := b) s (tk_lt hs hif)
    have hg := px_test_ok (b := b) (n := n) (od := od) 8 (nx b n s) l hnx.2 (RS_l hC.1)
    cases hpv : px_test b n od 8 (nx b n s) l with
    | inl x => exact kc4_x hS hB hC hif hpv
    | inr q => obtain ⟨s3, l3, f⟩ := q; rw [hpv] at hg; exact kc4_s hS hB hC hif hpv (Vt_Vs hg.2.2.2.2)
  · exact kc4_n hS hB hC hif
theorem ko6_n {d : Nat} {G : am_G} {I J : Nat → Nat → Int} {P : Nat → Nat → Option Nat} (hS : ST G P) {b : Nat → Int} {n : Nat} (hB : TB b n) {od : Bool} {z i s l y : Nat} {v : Nat} {o1 o2 : Option Fn} (hC : CL I J P b n od z i s l y (v, o1, o2, 1, none)) {r : Nat ⊕ (Nat × Nat × Option Fn × Nat)} (hr : r = bnd (st3 b n s) (fun t => .inr (t.1, l, o2, t.2))) (hti : ¬ tk b n s = [116, 105, 109, 101, 115]) : am_ex (am_call am_B am_M (d + 35)) (am_B 66) (am_B 66 6) [some (.inr (.inr (some 161))), some (.inl (i : Int)), some (.inl (v : Int)), none] [] (G, J, P) (QO G P b n od I z i v o1 r) := by
  obtain ⟨hR, hzy, hi, h5, hD0, hF⟩ := id hC
  have hs := RS_s hR
  have hn4 := hB.1
  refine (ex_6_0 (ix_41r (sh_161 hS) (pt_161_1 hS) (ex_3 (ix_46 (S' := [(.inl 0)]) rfl (sh_169 hS) (k_is_12_f hS (RS_K hR) hB (RS_T hR) (RS_s hR) hti) rfl rfl (ex_if0 (fun _ => ?_) (fun hc => by exfalso; revert hc; decide))))))
  refine (ex_0 ?_)
  exact ex_57 (by decide) (QO_inr (by rw [hr]; unfold st3; rw [if_neg hti]; rfl) hR hzy h5 hD0 hF)
theorem ko6_f {d : Nat} {G : am_G} {I J : Nat → Nat → Int} {P : Nat → Nat → Option Nat} (hS : ST G P) {b : Nat → Int} {n : Nat} (hB : TB b n) {od : Bool} {z i s l y : Nat} {v : Nat} {o1 o2 : Option Fn} (hC : CL I J P b n od z i s l y (v, o1, o2, 1, none)) {r : Nat ⊕ (Nat × Nat × Option Fn × Nat)} (hr : r = bnd (st3 b n s) (fun t => .inr (t.1, l, o2, t.2))) (hti : tk b n s = [116, 105, 109, 101, 115]) (hnu : ¬ (1 ≤ num b n (nx b n s) ∧ num b n (nx b n s) ≤ 20)) : am_ex (am_call am_B am_M (d + 35)) (am_B 66) (am_B 66 6) [some (.inr (.inr (some 161))), some (.inl (i : Int)), some (.inl (v : Int)), none] [] (G, J, P) (QO G P b n od I z i v o1 r) := by
  obtain ⟨hR, hzy, hi, h5, hD0, hF⟩ := id hC
  have hs := RS_s hR
  have hn4 := hB.1
  have hlt := tk_lt hs hti
  have hnx := nx_2 (b := b) s hlt
  refine (ex_6_0 (ix_41r (sh_161 hS) (pt_161_1 hS) (ex_3 (ix_46 (S' := [(.inl 1)]) rfl (sh_169 hS) (k_is_12_t hS (RS_K hR) hB (RS_T hR) (RS_s hR) hti) rfl rfl (ex_if0 (fun hc => by exfalso; revert hc; decide) (fun _ => ?_))))))
  refine (ex_6_0 (ix_41r (sh_161 hS) (pt_161_1 hS) ?_))
  obtain ⟨J2, e2, r2, f2⟩ := RS_step (d := d + 33) hS hB hR hlt
  refine (ix_46 (S' := []) rfl (sh_169 hS) e2 rfl rfl (ex_6_0 (ix_41r (sh_161 hS) (pt_161_1 hS) (ix_46 (S' := [(.inl (num b n (nx b n s)))]) rfl (sh_169 hS) (k_number hS hB (RS_T r2) (RS_s r2)) rfl rfl (ex_7_3 rfl (ex_4_3 (ex_0 ?_)))))))
  refine ex_ic2 (fun hc79 => ?_) (fun hc79 => ?_)
  · refine (ex_6_0 (ix_46 (S' := [(.inl 0)]) rfl (sh_161 hS) (k_fail hS (RS_T r2).2.2.1) rfl rfl ?_))
    exact ex_57 (by decide) (QO_inl (by rw [hr]; unfold st3; rw [if_pos hti, if_neg hnu]; rfl) u2_e (CF_R (CF_T hF f2) RFr_fail hzy))
  · refine (ex_4_3 (ex_0 ?_))
    refine ex_ic5 (fun hc85 => by exfalso; omega) (fun hc85 => ?_)
    refine (ex_6_0 (ix_46 (S' := [(.inl 0)]) rfl (sh_161 hS) (k_fail hS (RS_T r2).2.2.1) rfl rfl ?_))
    exact ex_57 (by decide) (QO_inl (by rw [hr]; unfold st3; rw [if_pos hti, if_neg hnu]; rfl) u2_e (CF_R (CF_T hF f2) RFr_fail hzy))
theorem ko6_t {d : Nat} {G : am_G} {I J : Nat → Nat → Int} {P : Nat → Nat → Option Nat} (hS : ST G P) {b : Nat → Int} {n : Nat} (hB : TB b n) {od : Bool} {z i s l y : Nat} {v : Nat} {o1 o2 : Option Fn} (hC : CL I J P b n od z i s l y (v, o1, o2, 1, none)) {r : Nat ⊕ (Nat × Nat × Option Fn × Nat)} (hr : r = bnd (st3 b n s) (fun t => .inr (t.1, l, o2, t.2))) (hti : tk b n s = [116, 105, 109, 101, 115]) (hnu : 1 ≤ num b n (nx b n s) ∧ num b n (nx b n s) ≤ 20) : am_ex (am_call am_B am_M (d + 35)) (am_B 66) (am_B 66 6) [some (.inr (.inr (some 161))), some (.inl (i : Int)), some (.inl (v : Int)), none] [] (G, J, P) (QO G P b n od I z i v o1 r) := by
  obtain ⟨hR, hzy, hi, h5, hD0, hF⟩ := id hC
  have hs := RS_s hR
  have hn4 := hB.1
  have hlt := tk_lt hs hti
  have hnx := nx_2 (b := b) s hlt
  have hlt2 := num_lt (b := b) hnx.2 (by omega)
  refine (ex_6_0 (ix_41r (sh_161 hS) (pt_161_1 hS) (ex_3 (ix_46 (S' := [(.inl 1)]) rfl (sh_169 hS) (k_is_12_t hS (RS_K hR) hB (RS_T hR) (RS_s hR) hti) rfl rfl (ex_if0 (fun hc => by exfalso; revert hc; decide) (fun _ => ?_))))))
  refine (ex_6_0 (ix_41r (sh_161 hS) (pt_161_1 hS) ?_))
  obtain ⟨J2, e2, r2, f2⟩ := RS_step (d := d + 33) hS hB hR hlt
  refine (ix_46 (S' := []) rfl (sh_169 hS) e2 rfl rfl (ex_6_0 (ix_41r (sh_161 hS) (pt_161_1 hS) (ix_46 (S' := [(.inl (num b n (nx b n s)))]) rfl (sh_169 hS) (k_number hS hB (RS_T r2) (RS_s r2)) rfl rfl (ex_7_3 rfl (ex_4_3 (ex_0 ?_)))))))
  refine ex_ic2 (fun hc79 => by exfalso; omega) (fun hc79 => ?_)
  refine (ex_4_3 (ex_0 ?_))
  refine ex_ic5 (fun hc85 => ?_) (fun hc85 => by exfalso; omega)
  refine (ex_6_0 (ix_41r (sh_161 hS) (pt_161_1 hS) ?_))
  obtain ⟨J3, e3, r3, f3⟩ := RS_step (d := d + 33) hS hB r2 hlt2
  refine (ix_46 (S' := []) rfl (sh_169 hS) e3 rfl rfl (ex_6_0 (ix_41r (sh_161 hS) (pt_161_0 hS) (ix_41r (sh_162 hS) (pt_162_3 hS) (ex_4_1 (ex_4_3 (ix_34 (j := i) (sh_166 hS) (by omega) (by omega) (by omega) (ex_58 (ex_0 ?_)))))))))
  exact ex_57 (by decide) (by obtain ⟨g1, g2, g3, g4, ⟨d1, d2, d3, d4, d5, d6⟩, g6⟩ := CL_T (CL_T hC r2 f2) r3 f3; refine QO_inr (t := (num b n (nx b n s)).toNat) (by rw [hr]; unfold st3; rw [if_pos hti, if_pos hnu]; rfl) (RS_w g1 (by decide)) g2 ((u2_q (by decide)).trans g4) ⟨(u2_q (by decide)).trans d1, d2, ?_, ?_, u2_e.trans (by show (num b n (nx b n s)) = (((num b n (nx b n s)).toNat : Nat) : Int); omega), ?_⟩ (CF_w g6 (by decide)) <;> (rw [u2_qf (by decide), u2_q (by decide)]; assumption))
theorem ko6 {d : Nat} {G : am_G} {I J : Nat → Nat → Int} {P : Nat → Nat → Option Nat} (hS : ST G P) {b : Nat → Int} {n : Nat} (hB : TB b n) {od : Bool} {z i s l y : Nat} {v : Nat} {o1 o2 : Option Fn} (hC : CL I J P b n od z i s l y (v, o1, o2, 1, none)) {r : Nat ⊕ (Nat × Nat × Option Fn × Nat)} (hr : r = bnd (st3 b n s) (fun t => .inr (t.1, l, o2, t.2))) : am_ex (am_call am_B am_M (d + 35)) (am_B 66) (am_B 66 6) [some (.inr (.inr (some 161))), some (.inl (i : Int)), some (.inl (v : Int)), none] [] (G, J, P) (QO G P b n od I z i v o1 r) := by
  by_cases hti : tk b n s = [116, 105, 109, 101, 115]
  · by_cases hnu : 1 ≤ num b n (nx b n s) ∧ num b n (nx b n s) ≤ 20
    · exact ko6_t hS hB hC hr hti hnu
    · exact ko6_f hS hB hC hr hti hnu
  · exact ko6_n hS hB hC hr hti
theorem ko_n {d : Nat} {G : am_G} {I J : Nat → Nat → Int} {P : Nat → Nat → Option Nat} (hS : ST G P) {b : Nat → Int} {n : Nat} (hB : TB b n) {od : Bool} {z i s l y : Nat} {v : Nat} {o1 : Option Fn} (hC : CL I J P b n od z i s l y (v, o1, none, 1, none)) (hv : ¬ v = 0) : am_ex (am_call am_B am_M (d + 35)) (am_B 66) (am_B 66 0) [some (.inr (.inr (some 161))), some (.inl (i : Int)), some (.inl (v : Int)), none] [] (G, J, P) (QO G P b n od I z i v o1 (st23 b n od v s l)) := by
  obtain ⟨hR, hzy, hi, h5, hD0, hF⟩ := id hC
  have hs := RS_s hR
  have hn4 := hB.1
  refine (ex_4_2 ?_)
  refine ex_if1 (fun hc1 => ?_) (fun hc1 => by exfalso; omega)
  exact ko6 hS hB hC (by unfold st23 st2; rw [if_neg hv]; rfl)
theorem ko_f {d : Nat} {G : am_G} {I J : Nat → Nat → Int} {P : Nat → Nat → Option Nat} (hS : ST G P) {b : Nat → Int} {n : Nat} (hB : TB b n) {od : Bool} {z i s l y : Nat} {v : Nat} {o1 : Option Fn} (hC : CL I J P b n od z i s l y (v, o1, none, 1, none)) (hv : v = 0) (hto : ¬ tk b n s = [116, 111]) : am_ex (am_call am_B am_M (d + 35)) (am_B 66) (am_B 66 0) [some (.inr (.inr (some 161))), some (.inl (i : Int)), some (.inl (v : Int)), none] [] (G, J, P) (QO G P b n od I z i v o1 (st23 b n od v s l)) := by
  obtain ⟨hR, hzy, hi, h5, hD0, hF⟩ := id hC
  have hs := RS_s hR
  have hn4 := hB.1
  refine (ex_4_2 ?_)
  refine ex_if1 (fun hc1 => by exfalso; omega) (fun hc1 => ?_)
  refine (ex_6_0 (ex_3 (ix_46 (S' := [(.inl 0)]) rfl (sh_161 hS) (k_exp_11_f (d := d + 32) hS hB hR hto) rfl rfl (ex_if1 (fun hc => by exfalso; revert hc; decide) (fun _ => ?_)))))
  refine (ex_0 ?_)
  exact ex_57 (by decide) (QO_inl (by unfold st23 st2; rw [if_pos hv, if_neg hto]; rfl) u2_e (CF_R hF RFr_fail hzy))
theorem ko_x {d : Nat} {G : am_G} {I J : Nat → Nat → Int} {P : Nat → Nat → Option Nat} (hS : ST G P) {b : Nat → Int} {n : Nat} (hB : TB b n) {od : Bool} {z i s l y : Nat} {v : Nat} {o1 : Option Fn} (hC : CL I J P b n od z i s l y (v, o1, none, 1, none)) (hv : v = 0) (hto : tk b n s = [116, 111]) {x : Nat} (hpv : px_sum b n od 8 (nx b n s) l = .inl x) : am_ex (am_call am_B am_M (d + 35)) (am_B 66) (am_B 66 0) [some (.inr (.inr (some 161))), some (.inl (i : Int)), some (.inl (v : Int)), none] [] (G, J, P) (QO G P b n od I z i v o1 (st23 b n od v s l)) := by
  obtain ⟨hR, hzy, hi, h5, hD0, hF⟩ := id hC
  have hs := RS_s hR
  have hn4 := hB.1
  have hnx := nx_2 (b := b) s (tk_lt hs hto)
  have hys := RS_z hR
  have hsum := kr_sums hS hB (od := od) 8 (d + 2) (by decide)
  refine (ex_4_2 ?_)
  refine ex_if1 (fun hc1 => by exfalso; omega) (fun hc1 => ?_)
  refine (ex_6_0 (ex_3 ?_))
  obtain ⟨J2, e2, r2, f2⟩ := k_exp_11_t (d := d + 32) hS hB hR hto
  refine (ix_46 (S' := [(.inl 1)]) rfl (sh_161 hS) e2 rfl rfl (ex_if1 (fun _ => ?_) (fun hc => by exfalso; revert hc; decide)))
  refine (ex_6_0 (ix_41r (sh_161 hS) (pt_161_0 hS) (ix_41r (sh_162 hS) (pt_162_2 hS) (ex_4_1 (ex_6_0 (ix_41r (sh_161 hS) (pt_161_0 hS) (ix_46 (S' := [(.inl (y : Int)), (.inl (i : Int)), (.inr (.inr (some 165)))]) rfl (sh_162 hS) (k_textNext hS (RS_7 r2)) rfl rfl (ix_34 (j := i) (sh_165 hS) (by omega) (by omega) (by omega) (ex_6_0 (ex_0 ?_))))))))))
  have r2w : RS (am_u2 J2 165 i (y : Int)) P b n od (nx b n s) l y := RS_w r2 (by decide)
  obtain ⟨o_, eo, qo⟩ := hsum _ _ _ _ r2w
  rw [hpv] at qo
  obtain ⟨J3, rfl, hx3, f3⟩ := qo
  refine (ix_46 (S' := [(.inl 0)]) rfl (sh_161 hS) eo rfl rfl (ex_if1 (fun hc => by exfalso; revert hc; decide) (fun _ => ?_)))
  refine (ex_0 ?_)
  exact ex_57 (by decide) (QO_inl (by unfold st23 st2; rw [if_pos hv, if_pos hto, hpv]; rfl) hx3 (CF_R (CF_w (CF_T hF f2) (by decide)) f3 hzy))
theorem ko_s {d : Nat} {G : am_G} {I J : Nat → Nat → Int} {P : Nat → Nat → Option Nat} (hS : ST G P) {b : Nat → Int} {n : Nat} (hB : TB b n) {od : Bool} {z i s l y : Nat} {v : Nat} {o1 : Option Fn} (hC : CL I J P b n od z i s l y (v, o1, none, 1, none)) (hv : v = 0) (hto : tk b n s = [116, 111]) {s3 l3 : Nat} {f : Fn} (hpv : px_sum b n od 8 (nx b n s) l = .inr (s3, l3, f)) (hV : Vs f) : am_ex (am_call am_B am_M (d + 35)) (am_B 66) (am_B 66 0) [some (.inr (.inr (some 161))), some (.inl (i : Int)), some (.inl (v : Int)), none] [] (G, J, P) (QO G P b n od I z i v o1 (st23 b n od v s l)) := by
  obtain ⟨hR, hzy, hi, h5, hD0, hF⟩ := id hC
  have hs := RS_s hR
  have hn4 := hB.1
  have hnx := nx_2 (b := b) s (tk_lt hs hto)
  have hys := RS_z hR
  have hsum := kr_sums hS hB (od := od) 8 (d + 2) (by decide)
  refine (ex_4_2 ?_)
  refine ex_if1 (fun hc1 => by exfalso; omega) (fun hc1 => ?_)
  refine (ex_6_0 (ex_3 ?_))
  obtain ⟨J2, e2, r2, f2⟩ := k_exp_11_t (d := d + 32) hS hB hR hto
  refine (ix_46 (S' := [(.inl 1)]) rfl (sh_161 hS) e2 rfl rfl (ex_if1 (fun _ => ?_) (fun hc => by exfalso; revert hc; decide)))
  refine (ex_6_0 (ix_41r (sh_161 hS) (pt_161_0 hS) (ix_41r (sh_162 hS) (pt_162_2 hS) (ex_4_1 (ex_6_0 (ix_41r (sh_161 hS) (pt_161_0 hS) (ix_46 (S' := [(.inl (y : Int)), (.inl (i : Int)), (.inr (.inr (some 165)))]) rfl (sh_162 hS) (k_textNext hS (RS_7 r2)) rfl rfl (ix_34 (j := i) (sh_165 hS) (by omega) (by omega) (by omega) (ex_6_0 (ex_0 ?_))))))))))
  have r2w : RS (am_u2 J2 165 i (y : Int)) P b n od (nx b n s) l y := RS_w r2 (by decide)
  obtain ⟨o_, eo, qo⟩ := hsum _ _ _ _ r2w
  rw [hpv] at qo
  obtain ⟨J3, y3, rfl, r3, hz3, hS3, f3⟩ := qo
  refine (ix_46 (S' := [(.inl 1)]) rfl (sh_161 hS) eo rfl rfl (ex_if1 (fun _ => ?_) (fun hc => by exfalso; revert hc; decide)))
  refine (ex_6_0 (ix_41r (sh_161 hS) (pt_161_0 hS) (ex_0 (ex_0 (ix_46 (S' := []) rfl (sh_162 hS) (k_add hS (z := y3) (sg := 0) (tl := 0) (RS_7 r3) (by have := RS_s r3; have := RS_z r3; have := hB.1; omega) (by decide) (by decide)) rfl rfl (ex_58 ?_))))))
  exact ko6 hS hB (CL_end (c' := (v, o1, some f, 1, none)) hB (CL_T hC r2 f2) (by omega) (Or.inr (Or.inl rfl)) r3 hz3 hS3 (by decide) hV f3 ⟨rfl, rfl, rfl, rfl, rfl⟩) (by unfold st23 st2; rw [if_pos hv, if_pos hto, hpv]; rfl)
theorem ko {d : Nat} {G : am_G} {I J : Nat → Nat → Int} {P : Nat → Nat → Option Nat} (hS : ST G P) {b : Nat → Int} {n : Nat} (hB : TB b n) {od : Bool} {z i s l y : Nat} {v : Nat} {o1 : Option Fn} (hC : CL I J P b n od z i s l y (v, o1, none, 1, none)) : ∃ o, am_call am_B am_M (d + 36) 66 [.inr (.inr (some 161)), .inl (i : Int), .inl (v : Int)] (G, J, P) = some o ∧ QO G P b n od I z i v o1 (st23 b n od v s l) o := by
  refine am_doQ (L := [some (.inr (.inr (some 161))), some (.inl (i : Int)), some (.inl (v : Int)), none]) (Nat.le_of_ble_eq_true rfl) rfl ?_
  have hs := RS_s hC.1
  by_cases hv : v = 0
  · by_cases hto : tk b n s = [116, 111]
    · have hnx := nx_2 (b := b) s (tk_lt hs hto)
      have hg := px_sum_ok (b := b) (n := n) (od := od) 8 (nx b n s) l hnx.2 (RS_l hC.1)
      cases hpv : px_sum b n od 8 (nx b n s) l with
      | inl x => exact ko_x hS hB hC hv hto hpv
      | inr q => obtain ⟨s3, l3, f⟩ := q; rw [hpv] at hg; exact ko_s hS hB hC hv hto hpv hg.2.2.2.2
    · exact ko_f hS hB hC hv hto
  · exact ko_n hS hB hC hv
