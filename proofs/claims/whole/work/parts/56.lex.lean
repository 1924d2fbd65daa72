/-! ===== tokens: what both sides read ===== -/
theorem ex_whR {K : Nat → List am_V → am_H → Option am_O} {B : Nat → List am_I} {b : Nat} {Q : am_O → Prop} {G : am_G} {P : Nat → Nat → Option Nat} {L : am_L} (p : Nat → Bool) (N z : Nat) (inv : Nat → (Nat → Nat → Int) → Prop) (Lf : Nat → (Nat → Option am_V) → am_L)
    (hs : ∀ i e J, i < N → ¬ p i = true → inv i J → (∀ e' J', inv (i + 1) J' → am_ex K B (B b) (Lf (i + 1) e') [] (G, J', P) Q) → am_ex K B (B b) (Lf i e) [] (G, J, P) Q)
    (he : ∀ e J, z ≤ N → (z < N → p z = true) → inv z J → am_ex K B (B b) (Lf z e) [] (G, J, P) Q) : ∀ (k i : Nat) (e : Nat → Option am_V) (J : Nat → Nat → Int), i + k = N → fnd p k i = z → inv i J → L = Lf i e → am_ex K B (B b) L [] (G, J, P) Q := by
  intro k
  induction k generalizing L with
  | zero =>
    intro i e J g f h hL
    have f : i = z := f
    subst f; subst hL
    exact he e J (by omega) (fun q => by omega) h
  | succ k ih =>
    intro i e J g f h hL
    subst hL
    by_cases q : p i = true
    · have f : i = z := by unfold fnd at f; rw [if_pos q] at f; exact f
      subst f
      exact he e J (by omega) (fun _ => q) h
    · have f : fnd p k (i + 1) = z := by unfold fnd at f; rw [if_neg q] at f; exact f
      exact hs i e J (by omega) q h (fun e' J' h' => ih (i + 1) e' J' (by omega) f h' rfl)
theorem fnd_ge (p : Nat → Bool) : ∀ (k i : Nat), i ≤ fnd p k i
  | 0, i => Nat.le_refl _
  | k + 1, i => by
    unfold fnd
    split
    · exact Nat.le_refl _
    · have := fnd_ge p k (i + 1); omega
theorem fnd_bf (p : Nat → Bool) : ∀ (k i x : Nat), i ≤ x → x < fnd p k i → ¬ p x = true
  | 0, i, x, h1, h2 => by have h2 : x < i := h2; omega
  | k + 1, i, x, h1, h2 => by
    unfold fnd at h2
    split at h2
    · omega
    · rename_i hp
      by_cases e : x = i
      · rw [e]; exact hp
      · exact fnd_bf p k (i + 1) x (by omega) h2
theorem fnd_st (p : Nat → Bool) : ∀ (k i : Nat), fnd p k i < i + k → p (fnd p k i) = true
  | 0, i, h => by have h : i < i + 0 := h; omega
  | k + 1, i, h => by
    unfold fnd at h ⊢
    split
    · rename_i hp; exact hp
    · rename_i hp
      rw [if_neg hp] at h
      exact fnd_st p k (i + 1) (by omega)
theorem fnd_sk {p : Nat → Bool} {k i : Nat} (h : ¬ p i = true) : fnd p (k + 1) i = fnd p k (i + 1) := by
  show (if p i = true then i else fnd p k (i + 1)) = _
  rw [if_neg h]
theorem fnd_congr {p q : Nat → Bool} : ∀ (k i : Nat), (∀ x, i ≤ x → x < i + k → p x = q x) → fnd p k i = fnd q k i
  | 0, _, _ => rfl
  | k + 1, i, h => by
    unfold fnd
    rw [h i (Nat.le_refl _) (by omega), fnd_congr k (i + 1) (fun x a b => h x (by omega) (by omega))]
/-- a byte as the class has it -/
def sb (v : Int) : Int := if 128 ≤ v then v - 256 else v
theorem sb_eq {v c : Int} (h : 0 ≤ v ∧ v ≤ 255) (hc : 0 ≤ c ∧ c < 128) : sb v = c ↔ v = c := by unfold sb; split <;> omega
/-- letters 1, digits 2, others 0 -/
def srt (v : Int) : Nat := if 97 ≤ v ∧ v ≤ 122 then 1 else if 48 ≤ v ∧ v ≤ 57 then 2 else 0
theorem srt_sb {v : Int} (h : 0 ≤ v ∧ v ≤ 255) : srt (sb v) = srt v := by
  unfold sb
  split
  · unfold srt; rw [if_neg (by omega), if_neg (by omega), if_neg (by omega), if_neg (by omega)]
  · rfl
theorem srt_2 (v : Int) : srt v ≤ 2 := by unfold srt; (repeat' split) <;> omega
def TB (b : Nat → Int) (n : Nat) : Prop := n ≤ 400 ∧ ∀ k, k < n → 0 ≤ b k ∧ b k ≤ 255
/-- the first that is no blank -/
def sk (b : Nat → Int) (n p : Nat) : Nat := fnd (fun i => decide (¬ b i = 32)) (n - p) p
/-- where the token that begins at s ends -/
def en (b : Nat → Int) (n s : Nat) : Nat := if s < n then fnd (fun i => decide (srt (b s) = 0 ∨ ¬ srt (b i) = srt (b s))) (n - (s + 1)) (s + 1) else n
def so (b : Nat → Int) (n s : Nat) : Nat := if s < n then srt (b s) else 0
def nx (b : Nat → Int) (n s : Nat) : Nat := sk b n (en b n s)
theorem sk_b {b : Nat → Int} {n p : Nat} (h : p ≤ n) : p ≤ sk b n p ∧ sk b n p ≤ n := by
  have h1 := fnd_ge (fun i => decide (¬ b i = 32)) (n - p) p
  have h2 := fnd_le (fun i => decide (¬ b i = 32)) (n - p) p
  unfold sk
  omega
theorem sk_nb {b : Nat → Int} {n p : Nat} (h : p ≤ n) (hl : sk b n p < n) : ¬ b (sk b n p) = 32 := by
  have := fnd_st (fun i => decide (¬ b i = 32)) (n - p) p (by unfold sk at hl; omega)
  exact of_decide_eq_true this
theorem en_b {b : Nat → Int} {n s : Nat} (h : s ≤ n) : s ≤ en b n s ∧ en b n s ≤ n ∧ (s < n → s < en b n s) := by
  unfold en
  split
  · have h1 := fnd_ge (fun i => decide (srt (b s) = 0 ∨ ¬ srt (b i) = srt (b s))) (n - (s + 1)) (s + 1)
    have h2 := fnd_le (fun i => decide (srt (b s) = 0 ∨ ¬ srt (b i) = srt (b s))) (n - (s + 1)) (s + 1)
    omega
  · omega
theorem nx_b {b : Nat → Int} {n s : Nat} (h : s ≤ n) : s ≤ nx b n s ∧ nx b n s ≤ n ∧ (s < n → s < nx b n s) := by
  have h1 := en_b (b := b) h
  have h2 := sk_b (b := b) (n := n) (p := en b n s) (by omega)
  unfold nx
  omega
theorem en_in {b : Nat → Int} {n s i : Nat} (h : s < n) (h1 : s ≤ i) (h2 : i < en b n s) : srt (b i) = srt (b s) := by
  unfold en at h2
  rw [if_pos h] at h2
  by_cases e : i = s
  · rw [e]
  · have := fnd_bf _ (n - (s + 1)) (s + 1) i (by omega) h2
    have := (not_or.mp (fun z => this (decide_eq_true z))).2
    exact Decidable.not_not.mp this
theorem en_0 {b : Nat → Int} {n s : Nat} (h : s < n) (h0 : srt (b s) = 0) : en b n s = s + 1 := by
  unfold en
  rw [if_pos h]
  by_cases e : s + 1 < n
  · rw [show n - (s + 1) = (n - (s + 2)) + 1 by omega]
    unfold fnd
    rw [if_pos (decide_eq_true (Or.inl h0))]
  · rw [show n - (s + 1) = 0 by omega]; rfl
/-- the token's letters -/
def tk (b : Nat → Int) (n s : Nat) : List Int := (List.range (en b n s - s)).map (fun i => b (s + i))
theorem tk_eq {b : Nat → Int} {n s : Nat} {kw : List Int} : tk b n s = kw ↔ (en b n s - s = kw.length ∧ ∀ i, i < kw.length → b (s + i) = kw.getD i 0) := by
  constructor
  · intro h
    subst h
    have hl : (tk b n s).length = en b n s - s := by unfold tk; rw [List.length_map, List.length_range]
    refine ⟨hl.symm, fun i hi => ?_⟩
    have hi2 : i < en b n s - s := by omega
    unfold tk
    rw [List.getD_eq_getElem?_getD, List.getElem?_map, List.getElem?_range hi2]
    rfl
  · rintro ⟨h1, h2⟩
    apply List.ext_getElem?
    intro i
    unfold tk
    by_cases hi : i < kw.length
    · rw [List.getElem?_map, List.getElem?_range (by omega), Option.map_some, h2 i hi, List.getD_eq_getElem?_getD, List.getElem?_eq_getElem hi]
      rfl
    · rw [List.getElem?_map, List.getElem?_eq_none (by rw [List.length_range]; omega), List.getElem?_eq_none (by omega)]
      rfl
def ooI : List (List Int) → Int → List Int → Int
  | [], _, _ => -1
  | w :: ws, j, t => if t = w then j else ooI ws (j + 1) t
/-- the tokens as the class holds them -/
def TK (I : Nat → Nat → Int) (P : Nat → Nat → Option Nat) (b : Nat → Int) (n s : Nat) : Prop := P 169 0 = some 171 ∧ I 169 1 = (n : Int) ∧ I 169 2 = (s : Int) ∧ I 169 3 = (en b n s : Int) ∧ I 169 4 = (so b n s : Int) ∧ ∀ k, k < n → I 171 k = sb (b k)
def TKF (I J : Nat → Nat → Int) : Prop := ∀ q k, ¬ (q = 169 ∧ 2 ≤ k ∧ k ≤ 4) → J q k = I q k
theorem k_sortAt {d : Nat} {G : am_G} {I : Nat → Nat → Int} {P : Nat → Nat → Option Nat} (hS : ST G P) (hP : P 169 0 = some 171) {b : Nat → Int} {n : Nat} (hB : TB b n) {i : Nat} (hi : i < n) (hb : I 171 i = sb (b i)) : am_call am_B am_M (d + 1) 101 [(.inr (.inr (some 169))), (.inl (i : Int))] (G, I, P) = some (some (.inl ((srt (b i) : Nat) : Int)), (G, I, P)) := by
  have hn4 := hB.1
  have hbi := hB.2 i hi
  refine am_doL (L := [some (.inr (.inr (some 169))), some (.inl (i : Int)), none]) (Nat.le_of_ble_eq_true rfl) rfl ?_
  refine (ex_6_0 (ix_41r (sh_169 hS) hP (ex_4_1 (ix_31 (j := i) (v := (sb (b i))) (sh_171 hS) (by omega) (by omega) (by omega) hb (ex_7_2 rfl (ex_4_2 (ex_0 ?_)))))))
  refine ex_ic2 (fun hc10 => ?_) (fun hc10 => ?_)
  · refine (ex_4_2 (ex_0 ?_))
    refine ex_ic2 (fun hc24 => ?_) (fun hc24 => ?_)
    · refine (ex_0 (ex_58 ?_))
      exact ex_53 (by rw [← srt_sb hbi]; unfold srt; rw [if_neg (by omega), if_neg (by omega)]; rfl)
    · refine (ex_4_2 (ex_0 ?_))
      refine ex_ic4 (fun hc30 => ?_) (fun hc30 => ?_)
      · refine (ex_0 (ex_58 ?_))
        exact ex_53 (by rw [← srt_sb hbi]; unfold srt; rw [if_neg (by omega), if_neg (by omega)]; rfl)
      · refine (ex_0 (ex_28 ?_))
        exact ex_53 (by rw [← srt_sb hbi]; unfold srt; rw [if_neg (by omega), if_pos ⟨by omega, by omega⟩]; rfl)
  · refine (ex_4_2 (ex_0 ?_))
    refine ex_ic4 (fun hc16 => ?_) (fun hc16 => ?_)
    · refine (ex_4_2 (ex_0 ?_))
      refine ex_ic2 (fun hc24 => ?_) (fun hc24 => ?_)
      · refine (ex_0 (ex_58 ?_))
        exact ex_53 (by rw [← srt_sb hbi]; unfold srt; rw [if_neg (by omega), if_neg (by omega)]; rfl)
      · refine (ex_4_2 (ex_0 ?_))
        refine ex_ic4 (fun hc30 => ?_) (fun hc30 => ?_)
        · refine (ex_0 (ex_58 ?_))
          exact ex_53 (by rw [← srt_sb hbi]; unfold srt; rw [if_neg (by omega), if_neg (by omega)]; rfl)
        · refine (ex_0 (ex_28 ?_))
          exact ex_53 (by rw [← srt_sb hbi]; unfold srt; rw [if_neg (by omega), if_pos ⟨by omega, by omega⟩]; rfl)
    · refine (ex_0 ?_)
      exact ex_53 (by rw [← srt_sb hbi]; unfold srt; rw [if_pos ⟨by omega, by omega⟩]; rfl)
theorem u2_o {α : Type} {f : Nat → Nat → α} {q k a i : Nat} {v : α} (h : ¬ (q = a ∧ k = i)) : am_u2 f a i v q k = f q k := by
  by_cases e : q = a
  · subst e; exact u2_k (fun z => h ⟨rfl, z⟩)
  · exact u2_q e
theorem l_step4l {d : Nat} {G : am_G} {I : Nat → Nat → Int} {P : Nat → Nat → Option Nat} (hS : ST G P) (hP : P 169 0 = some 171) {b : Nat → Int} {n : Nat} (hB : TB b n) {s : Nat} {x : Int} (hn : I 169 1 = (n : Int)) (hs : I 169 2 = (s : Int)) (hsn : s ≤ n) (hb : ∀ k, k < n → I 171 k = sb (b k)) (hlt : s < n) : am_ex (am_call am_B am_M (d + 1)) (am_B 100) (am_B 100 4) [some (.inr (.inr (some 169))), some (.inl x)] [] (G, I, P) (fun o => ∃ I1, o = (none, (G, I1, P)) ∧ (I1 169 2 = (s : Int) ∧ I1 169 3 = (en b n s : Int) ∧ I1 169 4 = (so b n s : Int) ∧ TKF I I1)) := by
  have hn4 := hB.1
  have he := en_b (b := b) hsn
  refine (ex_6_0 (ex_6_0 (ix_41i (v := (s : Int)) (sh_169 hS) hs (ex_0 (ex_add ⟨by omega, by omega⟩ (ex_6_0 (ix_41i (v := (n : Int)) (sh_169 hS) hn (ex_min (v := ((s + 1) : Int)) rfl (if_pos (by omega)) (ix_42i (sh_169 hS) (ex_6_0 (ex_6_0 (ix_41i (v := (s : Int)) (sh_169 hS) ((u2_k (by decide)).trans hs) (ex_6_0 (ix_41i (v := (n : Int)) (sh_169 hS) ((u2_k (by decide)).trans hn) ?_))))))))))))))
  refine ex_ic3 (fun hc71 => by exfalso; omega) (fun hc71 => ?_)
  refine (ex_6_0 (ex_6_0 (ix_41i (v := (s : Int)) (sh_169 hS) ((u2_k (by decide)).trans hs) (ix_46 (S' := [(.inl ((srt (b s) : Nat) : Int)), (.inr (.inr (some 169)))]) rfl (sh_169 hS) (k_sortAt (b := b) (n := n) hS hP hB (i := s) hlt ((u2_q (by decide)).trans (hb s hlt))) rfl rfl (ex_28 (ix_42i (sh_169 hS) (ex_6_0 (ix_41i (v := ((s + 1) : Int)) (sh_169 hS) ((u2_k (by decide)).trans u2_e) (ex_7_1 rfl (ex_58 ?_))))))))))
  refine ex_whR (b := 8) (fun i => decide (srt (b s) = 0 ∨ ¬ srt (b i) = srt (b s))) (n) ((en b n s)) (fun i J => J 169 3 = (i : Int) ∧ J 169 4 = ((srt (b s) : Nat) : Int) ∧ (∀ q k, ¬ (q = 169 ∧ 3 ≤ k ∧ k ≤ 4) → J q k = I q k)) (fun i e_i => [some (.inr (.inr (some 169))), some (.inl (i : Int))]) ?_ ?_ (n - (s + 1)) ((s + 1)) (fun k_ => ([some (.inr (.inr (some 169))), some (.inl ((s + 1) : Int))] : am_L).getD k_ none) ((am_u2 (am_u2 I 169 3 ((s + 1) : Int)) 169 4 ((srt (b s) : Nat) : Int))) (by omega) ((by unfold en; rw [if_pos hlt])) (⟨(u2_k (by decide)).trans u2_e, u2_e, fun q k h => (u2_o (by omega)).trans (u2_o (by omega))⟩) rfl
  · intro i e_i J hii hpi hvi hki
    obtain ⟨hv0, hv1, hv2⟩ := hvi
    have hq := not_or.mp (fun z => hpi (decide_eq_true z))
    have hq0 := hq.1
    have hq1 := Decidable.not_not.mp hq.2
    refine (ex_4_1 (ex_6_0 (ix_41i (v := (n : Int)) (sh_169 hS) ((hv2 _ _ (by omega)).trans hn) ?_)))
    refine ex_ic3 (fun hc99 => by exfalso; omega) (fun hc99 => ?_)
    refine (ex_6_0 (ix_41i (v := ((srt (b s) : Nat) : Int)) (sh_169 hS) hv1 ?_))
    refine ex_if0 (fun hc106 => by exfalso; exact hq0 (by omega)) (fun hc106 => ?_)
    refine (ex_6_0 (ex_4_1 (ix_46 (S' := [(.inl ((srt (b i) : Nat) : Int))]) rfl (sh_169 hS) (k_sortAt (b := b) (n := n) hS hP hB (i := i) hii ((hv2 _ _ (by omega)).trans (hb i hii))) rfl rfl (ex_6_0 (ix_41i (v := ((srt (b s) : Nat) : Int)) (sh_169 hS) hv1 ?_)))))
    refine ex_ic1 (fun hc118 => by exact absurd hq1 (by omega)) (fun hc118 => ?_)
    refine (ex_6_0 (ex_4_1 (ex_0 (ex_add ⟨by omega, by omega⟩ (ix_42i (sh_169 hS) (ex_10_1 ⟨by omega, by omega⟩ rfl (ex_28 ?_)))))))
    exact hki (fun k_ => ([some (.inr (.inr (some 169))), some (.inl ((i : Int) + 1))] : am_L).getD k_ none) _ (⟨u2_e, (u2_k (by omega)).trans hv1, fun q k h => (u2_o (by omega)).trans (hv2 q k h)⟩)
  · intro e_i J hzi hpi hvi
    obtain ⟨hv0, hv1, hv2⟩ := hvi
    have hzq : (en b n s) < n → (srt (b s) = 0 ∨ ¬ srt (b (en b n s)) = srt (b s)) := fun q => of_decide_eq_true (hpi q)
    refine (ex_4_1 (ex_6_0 (ix_41i (v := (n : Int)) (sh_169 hS) ((hv2 _ _ (by omega)).trans hn) ?_)))
    refine ex_ic3 (fun hc99 => ?_) (fun hc99 => ?_)
    · exact ex_56 ⟨_, rfl, (hv2 _ _ (by omega)).trans hs, hv0, hv1.trans (by unfold so; rw [if_pos (by omega)]), fun q k h => hv2 q k (by omega)⟩
    · refine (ex_6_0 (ix_41i (v := ((srt (b s) : Nat) : Int)) (sh_169 hS) hv1 ?_))
      refine ex_if0 (fun hc106 => ?_) (fun hc106 => ?_)
      · exact ex_56 ⟨_, rfl, (hv2 _ _ (by omega)).trans hs, hv0, hv1.trans (by unfold so; rw [if_pos (by omega)]), fun q k h => hv2 q k (by omega)⟩
      · refine (ex_6_0 (ex_4_1 (ix_46 (S' := [(.inl ((srt (b (en b n s)) : Nat) : Int))]) rfl (sh_169 hS) (k_sortAt (b := b) (n := n) hS hP hB (i := (en b n s)) (by omega) ((hv2 _ _ (by omega)).trans (hb _ (by omega)))) rfl rfl (ex_6_0 (ix_41i (v := ((srt (b s) : Nat) : Int)) (sh_169 hS) hv1 ?_)))))
        refine ex_ic1 (fun hc118 => ?_) (fun hc118 => by exfalso; have := hzq (by omega); omega)
        exact ex_56 ⟨_, rfl, (hv2 _ _ (by omega)).trans hs, hv0, hv1.trans (by unfold so; rw [if_pos (by omega)]), fun q k h => hv2 q k (by omega)⟩
theorem l_step4e {d : Nat} {G : am_G} {I : Nat → Nat → Int} {P : Nat → Nat → Option Nat} (hS : ST G P) (hP : P 169 0 = some 171) {b : Nat → Int} {n : Nat} (hB : TB b n) {s : Nat} {x : Int} (hn : I 169 1 = (n : Int)) (hs : I 169 2 = (s : Int)) (hsn : s ≤ n) (hb : ∀ k, k < n → I 171 k = sb (b k)) (hlt : ¬ s < n) : am_ex (am_call am_B am_M (d + 1)) (am_B 100) (am_B 100 4) [some (.inr (.inr (some 169))), some (.inl x)] [] (G, I, P) (fun o => ∃ I1, o = (none, (G, I1, P)) ∧ (I1 169 2 = (s : Int) ∧ I1 169 3 = (en b n s : Int) ∧ I1 169 4 = (so b n s : Int) ∧ TKF I I1)) := by
  have hn4 := hB.1
  have he := en_b (b := b) hsn
  refine (ex_6_0 (ex_6_0 (ix_41i (v := (s : Int)) (sh_169 hS) hs (ex_0 (ex_add ⟨by omega, by omega⟩ (ex_6_0 (ix_41i (v := (n : Int)) (sh_169 hS) hn (ex_min (v := (n : Int)) rfl (if_neg (by omega)) (ix_42i (sh_169 hS) (ex_6_0 (ex_6_0 (ix_41i (v := (s : Int)) (sh_169 hS) ((u2_k (by decide)).trans hs) (ex_6_0 (ix_41i (v := (n : Int)) (sh_169 hS) ((u2_k (by decide)).trans hn) ?_))))))))))))))
  refine ex_ic3 (fun hc71 => ?_) (fun hc71 => by exfalso; omega)
  refine (ex_0 (ex_58 (ix_42i (sh_169 hS) (ex_6_0 (ix_41i (v := (n : Int)) (sh_169 hS) ((u2_k (by decide)).trans u2_e) (ex_7_1 rfl (ex_58 ?_)))))))
  refine ex_whR (b := 8) (fun i => true) (n) (n) (fun i J => J 169 3 = (i : Int) ∧ J 169 4 = 0 ∧ (∀ q k, ¬ (q = 169 ∧ 3 ≤ k ∧ k ≤ 4) → J q k = I q k)) (fun i e_i => [some (.inr (.inr (some 169))), some (.inl (i : Int))]) ?_ ?_ (n - n) (n) (fun k_ => ([some (.inr (.inr (some 169))), some (.inl (n : Int))] : am_L).getD k_ none) ((am_u2 (am_u2 I 169 3 (n : Int)) 169 4 0)) (by omega) ((by rw [Nat.sub_self]; rfl)) (⟨(u2_k (by decide)).trans u2_e, u2_e, fun q k h => (u2_o (by omega)).trans (u2_o (by omega))⟩) rfl
  · intro i e_i J hii hpi hvi hki
    obtain ⟨hv0, hv1, hv2⟩ := hvi
    exact absurd rfl hpi
  · intro e_i J hzi hpi hvi
    obtain ⟨hv0, hv1, hv2⟩ := hvi
    refine (ex_4_1 (ex_6_0 (ix_41i (v := (n : Int)) (sh_169 hS) ((hv2 _ _ (by omega)).trans hn) ?_)))
    refine ex_ic3 (fun hc99 => ?_) (fun hc99 => by exfalso; omega)
    exact ex_56 ⟨_, rfl, (hv2 _ _ (by omega)).trans hs, hv0.trans (by unfold en; rw [if_neg (by omega)]), hv1.trans (by unfold so; rw [if_neg (by omega)]; rfl), fun q k h => hv2 q k (by omega)⟩
theorem l_step4 {d : Nat} {G : am_G} {I : Nat → Nat → Int} {P : Nat → Nat → Option Nat} (hS : ST G P) (hP : P 169 0 = some 171) {b : Nat → Int} {n : Nat} (hB : TB b n) {s : Nat} {x : Int} (hn : I 169 1 = (n : Int)) (hs : I 169 2 = (s : Int)) (hsn : s ≤ n) (hb : ∀ k, k < n → I 171 k = sb (b k)) : am_ex (am_call am_B am_M (d + 1)) (am_B 100) (am_B 100 4) [some (.inr (.inr (some 169))), some (.inl x)] [] (G, I, P) (fun o => ∃ I1, o = (none, (G, I1, P)) ∧ (I1 169 2 = (s : Int) ∧ I1 169 3 = (en b n s : Int) ∧ I1 169 4 = (so b n s : Int) ∧ TKF I I1)) := by
  by_cases hlt : s < n
  · exact l_step4l hS hP hB hn hs hsn hb hlt
  · exact l_step4e hS hP hB hn hs hsn hb hlt
theorem k_stepP {d : Nat} {G : am_G} {I : Nat → Nat → Int} {P : Nat → Nat → Option Nat} (hS : ST G P) (hP : P 169 0 = some 171) {b : Nat → Int} {n : Nat} (hB : TB b n) {p : Nat} (hn : I 169 1 = (n : Int)) (hp : I 169 3 = (p : Int)) (hpn : p ≤ n) (hb : ∀ k, k < n → I 171 k = sb (b k)) : ∃ I1, am_call am_B am_M (d + 2) 100 [(.inr (.inr (some 169)))] (G, I, P) = some (none, (G, I1, P)) ∧ (I1 169 2 = (sk b n p : Int) ∧ I1 169 3 = (en b n (sk b n p) : Int) ∧ I1 169 4 = (so b n (sk b n p) : Int) ∧ TKF I I1) := by
  have hn4 := hB.1
  have w : am_ex (am_call am_B am_M (d + 1)) (am_B 100) (am_B 100 0) [some (.inr (.inr (some 169))), none] [] (G, I, P) (fun o => ∃ I1, o = (none, (G, I1, P)) ∧ (I1 169 2 = (sk b n p : Int) ∧ I1 169 3 = (en b n (sk b n p) : Int) ∧ I1 169 4 = (so b n (sk b n p) : Int) ∧ TKF I I1)) := by
    refine (ex_6_0 (ex_6_0 (ix_41i (v := (p : Int)) (sh_169 hS) hp (ix_42i (sh_169 hS) (ex_6_0 (ix_41i (v := (p : Int)) (sh_169 hS) ((u2_k (by decide)).trans hp) (ex_7_1 rfl (ex_58 ?_))))))))
    refine ex_whR (b := 1) (fun i => decide (¬ b i = 32)) (n) ((sk b n p)) (fun i J => J 169 2 = (i : Int) ∧ (∀ q k, ¬ (q = 169 ∧ k = 2) → J q k = I q k)) (fun i e_i => [some (.inr (.inr (some 169))), some (.inl (i : Int))]) ?_ ?_ (n - p) (p) (fun k_ => ([some (.inr (.inr (some 169))), some (.inl (p : Int))] : am_L).getD k_ none) ((am_u2 I 169 2 (p : Int))) (by omega) (rfl) (⟨u2_e, fun q k h => u2_o h⟩) rfl
    · intro i e_i J hii hpi hvi hki
      obtain ⟨hv0, hv1⟩ := hvi
      have h32 := Decidable.not_not.mp (fun z => hpi (decide_eq_true z))
      have hbi := hB.2 i hii
      refine (ex_4_1 (ex_6_0 (ix_41i (v := (n : Int)) (sh_169 hS) ((hv1 _ _ (by omega)).trans hn) ?_)))
      refine ex_ic3 (fun hc18 => by exfalso; omega) (fun hc18 => ?_)
      refine (ex_6_0 (ix_41r (sh_169 hS) hP (ex_4_1 (ix_31 (j := i) (v := (sb (b i))) (sh_171 hS) (by omega) (by omega) (by omega) ((hv1 _ _ (by omega)).trans (hb i hii)) (ex_0 ?_)))))
      refine ex_ic1 (fun hc29 => by exact absurd ((sb_eq hbi (by decide)).mpr h32) hc29) (fun hc29 => ?_)
      refine (ex_6_0 (ex_4_1 (ex_0 (ex_add ⟨by omega, by omega⟩ (ix_42i (sh_169 hS) (ex_10_1 ⟨by omega, by omega⟩ rfl (ex_28 ?_)))))))
      exact hki (fun k_ => ([some (.inr (.inr (some 169))), some (.inl ((i : Int) + 1))] : am_L).getD k_ none) _ (⟨u2_e, fun q k h => (u2_o h).trans (hv1 q k h)⟩)
    · intro e_i J hzi hpi hvi
      obtain ⟨hv0, hv1⟩ := hvi
      have hz32 : sk b n p < n → ¬ b (sk b n p) = 32 := fun q => of_decide_eq_true (hpi q)
      refine (ex_4_1 (ex_6_0 (ix_41i (v := (n : Int)) (sh_169 hS) ((hv1 _ _ (by omega)).trans hn) ?_)))
      refine ex_ic3 (fun hc18 => ?_) (fun hc18 => ?_)
      · obtain ⟨n_, o_, r_, I1, e1, h2_, h3_, h4_, hf_⟩ := l_step4 (x := ((sk b n p : Nat) : Int)) (d := d) hS hP hB ((hv1 _ _ (by omega)).trans hn) hv0 (by omega) (fun k hk => (hv1 _ _ (by omega)).trans (hb k hk))
        exact ⟨n_, o_, r_, I1, e1, h2_, h3_, h4_, fun q k h => (hf_ q k h).trans (hv1 q k (by omega))⟩
      · refine (ex_6_0 (ix_41r (sh_169 hS) hP (ex_4_1 (ix_31 (j := (sk b n p)) (v := (sb (b (sk b n p)))) (sh_171 hS) (by omega) (by omega) (by omega) ((hv1 _ _ (by omega)).trans (hb _ (by omega))) (ex_0 ?_)))))
        refine ex_ic1 (fun hc29 => ?_) (fun hc29 => by exact absurd ((sb_eq (hB.2 _ (by omega)) (by decide)).mp hc29) (hz32 (by omega)))
        obtain ⟨n_, o_, r_, I1, e1, h2_, h3_, h4_, hf_⟩ := l_step4 (x := ((sk b n p : Nat) : Int)) (d := d) hS hP hB ((hv1 _ _ (by omega)).trans hn) hv0 (by omega) (fun k hk => (hv1 _ _ (by omega)).trans (hb k hk))
        exact ⟨n_, o_, r_, I1, e1, h2_, h3_, h4_, fun q k h => (hf_ q k h).trans (hv1 q k (by omega))⟩
  obtain ⟨o, e, I1, rfl, h⟩ := am_doQ (as := [(.inr (.inr (some 169)))]) (Nat.le_of_ble_eq_true rfl) rfl w
  exact ⟨I1, e, h⟩
theorem TK_fr {I J : Nat → Nat → Int} {P : Nat → Nat → Option Nat} {b : Nat → Int} {n s : Nat} (h : TK I P b n s) (hf : ∀ q k, (q = 169 ∨ q = 171) → J q k = I q k) : TK J P b n s := ⟨h.1, (hf _ _ (Or.inl rfl)).trans h.2.1, (hf _ _ (Or.inl rfl)).trans h.2.2.1, (hf _ _ (Or.inl rfl)).trans h.2.2.2.1, (hf _ _ (Or.inl rfl)).trans h.2.2.2.2.1, fun k hk => (hf _ _ (Or.inr rfl)).trans (h.2.2.2.2.2 k hk)⟩
theorem k_step1 {d : Nat} {G : am_G} {I : Nat → Nat → Int} {P : Nat → Nat → Option Nat} (hS : ST G P) {b : Nat → Int} {n s : Nat} (hB : TB b n) (hT : TK I P b n s) (hs : s ≤ n) : ∃ I1, am_call am_B am_M (d + 2) 100 [.inr (.inr (some 169))] (G, I, P) = some (none, (G, I1, P)) ∧ TK I1 P b n (nx b n s) ∧ TKF I I1 := by
  obtain ⟨I1, e, h2, h3, h4, hf⟩ := k_stepP (d := d) hS hT.1 hB hT.2.1 hT.2.2.2.1 (en_b hs).2.1 hT.2.2.2.2.2
  exact ⟨I1, e, ⟨hT.1, (hf _ _ (by decide)).trans hT.2.1, h2, h3, h4, fun k hk => (hf _ _ (by omega)).trans (hT.2.2.2.2.2 k hk)⟩, hf⟩
theorem k_isEnd_t {d : Nat} {G : am_G} {I : Nat → Nat → Int} {P : Nat → Nat → Option Nat} (hS : ST G P) {b : Nat → Int} {n : Nat} (hB : TB b n) {s : Nat} (hT : TK I P b n s) (hs : s ≤ n) (h : s = n) : am_call am_B am_M (d + 1) 102 [(.inr (.inr (some 169)))] (G, I, P) = some (some (.inl 1), (G, I, P)) := by
  refine am_doL (L := [some (.inr (.inr (some 169)))]) (Nat.le_of_ble_eq_true rfl) rfl ?_
  refine (ex_6_0 (ix_41i (v := (s : Int)) (sh_169 hS) hT.2.2.1 (ex_6_0 (ix_41i (v := (n : Int)) (sh_169 hS) hT.2.1 ?_))))
  refine ex_ic2 (fun hc8 => by exfalso; omega) (fun hc8 => ?_)
  refine (ex_0 (ex_28 ?_))
  exact ex_57 (by decide) rfl
theorem k_isEnd_f {d : Nat} {G : am_G} {I : Nat → Nat → Int} {P : Nat → Nat → Option Nat} (hS : ST G P) {b : Nat → Int} {n : Nat} (hB : TB b n) {s : Nat} (hT : TK I P b n s) (hs : s ≤ n) (h : ¬ s = n) : am_call am_B am_M (d + 1) 102 [(.inr (.inr (some 169)))] (G, I, P) = some (some (.inl 0), (G, I, P)) := by
  refine am_doL (L := [some (.inr (.inr (some 169)))]) (Nat.le_of_ble_eq_true rfl) rfl ?_
  refine (ex_6_0 (ix_41i (v := (s : Int)) (sh_169 hS) hT.2.2.1 (ex_6_0 (ix_41i (v := (n : Int)) (sh_169 hS) hT.2.1 ?_))))
  refine ex_ic2 (fun hc8 => ?_) (fun hc8 => by exfalso; omega)
  refine (ex_0 (ex_58 ?_))
  exact ex_57 (by decide) rfl
