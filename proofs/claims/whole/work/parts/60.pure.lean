/-! ===== the languages: what a text means, or where it fails ===== -/
abbrev Rs : Type := Nat ⊕ (Nat × Nat × Fn)
def cmb (o : Int) (f g : Fn) : Fn := fun w => if o = 29 then f_and (f w) (g w) else if o = 30 then f_or (f w) (g w) else f_bin o (f w) (g w)
def px_loop (T : Nat → Option Int) (it : Nat → Nat → Rs) (nf : Nat → Nat) : Nat → Nat → Nat → Fn → Rs
  | 0, s, l, f => .inr (s, l, f)
  | k + 1, s, l, f => match T s with
    | none => .inr (s, l, f)
    | some o => match it (nf s) l with
      | .inl x => .inl x
      | .inr (s', l', g) => px_loop T it nf k s' l' (cmb o f g)
def px_seq (T : Nat → Option Int) (it : Nat → Nat → Rs) (nf : Nat → Nat) (s l : Nat) : Rs := match it s l with
  | .inl x => .inl x
  | .inr (s', l', f) => px_loop T it nf 400 s' l' f
def opM (b : Nat → Int) (n s : Nat) : Option Int := if tk b n s = [42] then some 22 else if tk b n s = [47] then some 23 else if tk b n s = [37] then some 24 else none
def opA (b : Nat → Int) (n s : Nat) : Option Int := if tk b n s = [43] then some 20 else if tk b n s = [45] then some 21 else none
def opAnd (b : Nat → Int) (n s : Nat) : Option Int := if tk b n s = [97, 110, 100] then some 29 else none
def opOr (b : Nat → Int) (n s : Nat) : Option Int := if tk b n s = [111, 114] then some 30 else none
def opC (b : Nat → Int) (n s : Nat) : Option Int := if tk b n s = [60] then some 25 else if tk b n s = [62] then some 26 else if tk b n s = [61] then some 27 else none
def wrd (od : Bool) (t : List Int) : Int := if od = true then ooI [[110, 105, 103, 104, 116], [100, 111, 110, 101], [108, 97, 116, 101, 115, 116], [108, 101, 97, 114, 110, 116], [115, 111, 97, 107, 101, 100], [97, 116], [98, 117, 115, 121]] 0 t else ooI [[99, 108, 111, 117, 100], [107, 105, 110, 100], [114, 97, 103, 101], [98, 111, 120], [102, 111, 108, 107], [107, 110, 111, 119, 115], [119, 101, 116], [110, 105, 103, 104, 116], [109, 111, 111, 100]] 0 t
/-- a number behind at, busy -/
def px_which (b : Nat → Int) (n fi mo s l : Nat) : Rs := if 0 ≤ num b n s ∧ num b n s < (mo : Int) then .inr (nx b n s, l, fun w => some (w (fi + (num b n s).toNat))) else .inl s
def px_word (b : Nat → Int) (n : Nat) (od : Bool) (s l : Nat) : Rs :=
  if od = true ∧ wrd od (tk b n s) = 5 then px_which b n 5 6 (nx b n s) (l + 1) else if od = true ∧ wrd od (tk b n s) = 6 then px_which b n 11 5 (nx b n s) (l + 1) else .inr (nx b n s, l + 1, fun w => some (w (wrd od (tk b n s)).toNat))
def px_part (b : Nat → Int) (n : Nat) (od : Bool) (S : Option (Nat → Nat → Rs)) (s l : Nat) : Rs :=
  if tk b n s = [91] then (match S with
    | none => .inl s
    | some g => match g (nx b n s) l with
      | .inl x => .inl x
      | .inr (s', l', f) => if tk b n s' = [93] then .inr (nx b n s', l', f) else .inl s')
  else if (num b n s = -1 ∧ wrd od (tk b n s) = -1) ∨ 1000 < num b n s ∨ 50 ≤ l then .inl s
  else if ¬ num b n s = -1 then .inr (nx b n s, l + 1, fun _ => some (num b n s))
  else px_word b n od s l
def px_term (b : Nat → Int) (n : Nat) (od : Bool) (S : Option (Nat → Nat → Rs)) : Nat → Nat → Rs := px_seq (opM b n) (px_part b n od S) (nx b n)
def px_sumS (b : Nat → Int) (n : Nat) (od : Bool) (S : Option (Nat → Nat → Rs)) : Nat → Nat → Rs := px_seq (opA b n) (px_term b n od S) (nx b n)
def px_sum (b : Nat → Int) (n : Nat) (od : Bool) : Nat → Nat → Nat → Rs
  | 0 => px_sumS b n od none
  | r + 1 => px_sumS b n od (some (px_sum b n od r))
def px_subS (b : Nat → Int) (n : Nat) (od : Bool) : Nat → Option (Nat → Nat → Rs)
  | 0 => none
  | r + 1 => some (px_sum b n od r)
theorem px_sum_eq {b : Nat → Int} {n : Nat} {od : Bool} (r : Nat) : px_sum b n od r = px_sumS b n od (px_subS b n od r) := by cases r <;> rfl
def nts (b : Nat → Int) (n : Nat) : Nat → Nat → Nat × Nat
  | 0, s => (s, 0)
  | k + 1, s => if tk b n s = [110, 111, 116] then ((nts b n k (nx b n s)).1, (nts b n k (nx b n s)).2 + 1) else (s, 0)
def px_not (c : Nat) (r : Rs) : Rs := match r with
  | .inl x => .inl x
  | .inr (s, l, f) => .inr (s, l, if c % 2 = 1 then fun w => f_not (f w) else f)
def px_cmp (b : Nat → Int) (n : Nat) (S : Nat → Nat → Rs) (s l : Nat) : Rs := match S s l with
  | .inl x => .inl x
  | .inr (s2, l2, f) => match opC b n s2 with
    | none => .inl s2
    | some o => match S (nx b n s2) l2 with
      | .inl x => .inl x
      | .inr (s3, l3, g) => .inr (s3, l3, cmb o f g)
def px_plain0 (b : Nat → Int) (n : Nat) (T : Option (Nat → Nat → Rs)) (S : Nat → Nat → Rs) (s l : Nat) : Rs :=
  if tk b n s = [40] then (match T with
    | none => .inl s
    | some g => match g (nx b n s) l with
      | .inl x => .inl x
      | .inr (s', l', f) => if tk b n s' = [41] then .inr (nx b n s', l', f) else .inl s')
  else px_cmp b n S s l
def px_plain (b : Nat → Int) (n : Nat) (T : Option (Nat → Nat → Rs)) (S : Nat → Nat → Rs) (s l : Nat) : Rs := px_not (nts b n 400 s).2 (px_plain0 b n T S (nts b n 400 s).1 l)
def px_both (b : Nat → Int) (n : Nat) (T : Option (Nat → Nat → Rs)) (S : Nat → Nat → Rs) : Nat → Nat → Rs := px_seq (opAnd b n) (px_plain b n T S) (nx b n)
def px_testT (b : Nat → Int) (n : Nat) (T : Option (Nat → Nat → Rs)) (S : Nat → Nat → Rs) : Nat → Nat → Rs := px_seq (opOr b n) (px_both b n T S) (nx b n)
def px_test (b : Nat → Int) (n : Nat) (od : Bool) : Nat → Nat → Nat → Rs
  | 0 => px_testT b n none (px_sum b n od 0)
  | r + 1 => px_testT b n (some (px_test b n od r)) (px_sum b n od (r + 1))
def px_subT (b : Nat → Int) (n : Nat) (od : Bool) : Nat → Option (Nat → Nat → Rs)
  | 0 => none
  | r + 1 => some (px_test b n od r)
theorem px_test_eq {b : Nat → Int} {n : Nat} {od : Bool} (r : Nat) : px_test b n od r = px_testT b n (px_subT b n od r) (px_sum b n od r) := by cases r <;> rfl
/-- what comes of reading is behind, and of the kind V -/
def Gd (n : Nat) (V : Fn → Prop) (s l : Nat) (r : Rs) : Prop := match r with
  | .inl x => s ≤ x ∧ x ≤ n
  | .inr (s', l', f) => s < s' ∧ s' ≤ n ∧ l ≤ l' ∧ l' ≤ 50 ∧ V f
def IG (n : Nat) (V : Fn → Prop) (it : Nat → Nat → Rs) : Prop := ∀ s l, s ≤ n → l ≤ 50 → Gd n V s l (it s l)
def Vs (f : Fn) : Prop := ∀ w, okw w → ∀ v, f w = some v → rkb v
def Vt (f : Fn) : Prop := ∀ w, okw w → f_01 (f w)
theorem tk_lt {b : Nat → Int} {n s : Nat} (hs : s ≤ n) {c : Int} {kw : List Int} (h : tk b n s = c :: kw) : s < n := by
  have h1 := (tk_eq.mp h).1
  have h2 := en_b (b := b) hs
  rw [List.length_cons] at h1
  omega
theorem px_loop_ok {T : Nat → Option Int} {it : Nat → Nat → Rs} {nf : Nat → Nat} {n : Nat} {V : Fn → Prop} {W : Int → Prop} (hT : ∀ s o, s ≤ n → T s = some o → s < n ∧ W o) (hn : ∀ s, s < n → s < nf s ∧ nf s ≤ n) (hit : IG n V it) (hV : ∀ o f g, W o → V f → V g → V (cmb o f g)) : ∀ (k s l : Nat) (f : Fn), s ≤ n → l ≤ 50 → V f → (∀ x, px_loop T it nf k s l f = .inl x → s ≤ x ∧ x ≤ n) ∧ (∀ s' l' g, px_loop T it nf k s l f = .inr (s', l', g) → s ≤ s' ∧ s' ≤ n ∧ l ≤ l' ∧ l' ≤ 50 ∧ V g)
  | 0, s, l, f, hs, hl, hf => by
    unfold px_loop
    exact ⟨fun x e => (by cases e), fun s' l' g e => by cases e; exact ⟨Nat.le_refl _, hs, Nat.le_refl _, hl, hf⟩⟩
  | k + 1, s, l, f, hs, hl, hf => by
    unfold px_loop
    cases ht : T s with
    | none => exact ⟨fun x e => (by cases e), fun s' l' g e => by cases e; exact ⟨Nat.le_refl _, hs, Nat.le_refl _, hl, hf⟩⟩
    | some o =>
      have h1 := hT s o hs ht
      have h2 := hn s h1.1
      have h3 := hit (nf s) l h2.2 hl
      cases hi : it (nf s) l with
      | inl x =>
        rw [hi] at h3
        have h3 : nf s ≤ x ∧ x ≤ n := h3
        exact ⟨fun y e => by cases e; omega, fun s' l' g e => by cases e⟩
      | inr z =>
        obtain ⟨s1, l1, g1⟩ := z
        rw [hi] at h3
        have h3 : nf s < s1 ∧ s1 ≤ n ∧ l ≤ l1 ∧ l1 ≤ 50 ∧ V g1 := h3
        have ih := px_loop_ok hT hn hit hV k s1 l1 (cmb o f g1) h3.2.1 h3.2.2.2.1 (hV o f g1 h1.2 hf h3.2.2.2.2)
        exact ⟨fun x e => by have := ih.1 x e; omega, fun s' l' g e => by have := ih.2 s' l' g e; exact ⟨by omega, by omega, by omega, by omega, this.2.2.2.2⟩⟩
theorem px_seq_ok {T : Nat → Option Int} {it : Nat → Nat → Rs} {nf : Nat → Nat} {n : Nat} {V : Fn → Prop} {W : Int → Prop} (hT : ∀ s o, s ≤ n → T s = some o → s < n ∧ W o) (hn : ∀ s, s < n → s < nf s ∧ nf s ≤ n) (hit : IG n V it) (hV : ∀ o f g, W o → V f → V g → V (cmb o f g)) : IG n V (px_seq T it nf) := by
  intro s l hs hl
  have h1 := hit s l hs hl
  unfold px_seq
  cases hi : it s l with
  | inl x => rw [hi] at h1; exact h1
  | inr z =>
    obtain ⟨s1, l1, g1⟩ := z
    rw [hi] at h1
    have h1 : s < s1 ∧ s1 ≤ n ∧ l ≤ l1 ∧ l1 ≤ 50 ∧ V g1 := h1
    have h2 := px_loop_ok hT hn hit hV 400 s1 l1 g1 h1.2.1 h1.2.2.2.1 h1.2.2.2.2
    show Gd n V s l (px_loop T it nf 400 s1 l1 g1)
    cases hr : px_loop T it nf 400 s1 l1 g1 with
    | inl x => have := h2.1 x hr; show s ≤ x ∧ x ≤ n; omega
    | inr z =>
      obtain ⟨s2, l2, g2⟩ := z
      have := h2.2 s2 l2 g2 hr
      exact ⟨by omega, by omega, by omega, by omega, this.2.2.2.2⟩
theorem nx_2 {b : Nat → Int} {n : Nat} : ∀ s, s < n → s < nx b n s ∧ nx b n s ≤ n := fun s h => by have := nx_b (b := b) (n := n) (s := s) (by omega); omega
theorem opM_ok {b : Nat → Int} {n : Nat} : ∀ s o, s ≤ n → opM b n s = some o → s < n ∧ (20 ≤ o ∧ o < 28) := by
  intro s o hs h
  unfold opM at h
  split at h
  · rename_i e; cases h; exact ⟨tk_lt hs e, by decide⟩
  · split at h
    · rename_i e; cases h; exact ⟨tk_lt hs e, by decide⟩
    · split at h
      · rename_i e; cases h; exact ⟨tk_lt hs e, by decide⟩
      · cases h
theorem opC_ok {b : Nat → Int} {n : Nat} : ∀ s o, s ≤ n → opC b n s = some o → s < n ∧ (25 ≤ o ∧ o < 28) := by
  intro s o hs h
  unfold opC at h
  split at h
  · rename_i e; cases h; exact ⟨tk_lt hs e, by decide⟩
  · split at h
    · rename_i e; cases h; exact ⟨tk_lt hs e, by decide⟩
    · split at h
      · rename_i e; cases h; exact ⟨tk_lt hs e, by decide⟩
      · cases h
theorem opA_ok {b : Nat → Int} {n : Nat} : ∀ s o, s ≤ n → opA b n s = some o → s < n ∧ (20 ≤ o ∧ o < 28) := by
  intro s o hs h
  unfold opA at h
  split at h
  · rename_i e; cases h; exact ⟨tk_lt hs e, by decide⟩
  · split at h
    · rename_i e; cases h; exact ⟨tk_lt hs e, by decide⟩
    · cases h
theorem opAnd_ok {b : Nat → Int} {n : Nat} : ∀ s o, s ≤ n → opAnd b n s = some o → s < n ∧ (o = 29 ∨ o = 30) := by
  intro s o hs h
  unfold opAnd at h
  split at h
  · rename_i e; cases h; exact ⟨tk_lt hs e, by decide⟩
  · cases h
theorem opOr_ok {b : Nat → Int} {n : Nat} : ∀ s o, s ≤ n → opOr b n s = some o → s < n ∧ (o = 29 ∨ o = 30) := by
  intro s o hs h
  unfold opOr at h
  split at h
  · rename_i e; cases h; exact ⟨tk_lt hs e, by decide⟩
  · cases h
theorem m_rck_b {o x y v : Int} (h : m_rck o x y = some v) : rkb v := by
  unfold m_rck at h
  split at h
  · cases h
  · rename_i q
    cases h
    exact Classical.not_not.mp (not_or.mp q).2
theorem cmb_s {o : Int} {f g : Fn} (h : 20 ≤ o ∧ o < 28) : cmb o f g = fun w => f_bin o (f w) (g w) := by
  funext w
  unfold cmb
  rw [if_neg (by omega), if_neg (by omega)]
theorem f_bin_b {o v : Int} {f g : Option Int} (h : f_bin o f g = some v) : rkb v := by
  unfold f_bin at h
  split at h
  · exact m_rck_b h
  · cases h
theorem Vs_cmb : ∀ (o : Int) (f g : Fn), (20 ≤ o ∧ o < 28) → Vs f → Vs g → Vs (cmb o f g) := by
  intro o f g h _ _ w _ v e
  rw [cmb_s h] at e
  exact f_bin_b e
theorem Vt_cmb : ∀ (o : Int) (f g : Fn), (o = 29 ∨ o = 30) → Vt f → Vt g → Vt (cmb o f g) := by
  intro o f g h hf hg w hw
  have h1 := hf w hw
  have h2 := hg w hw
  unfold cmb f_01
  rcases h with h | h
  · rw [if_pos h]
    unfold f_and
    split
    · exact Or.inr (Or.inl rfl)
    · split
      · exact h2
      · exact Or.inl rfl
  · rw [if_neg (by omega), if_pos h]
    unfold f_or
    split
    · exact Or.inr (Or.inr rfl)
    · split
      · exact h2
      · exact Or.inl rfl
theorem cmp_01 {o : Int} {f g : Fn} (h : 25 ≤ o ∧ o < 28) : Vt (cmb o f g) := by
  intro w _
  rw [cmb_s (by omega)]
  show f_01 (f_bin o (f w) (g w))
  unfold f_bin
  split
  · rename_i x y _ _
    unfold m_rck
    split
    · exact Or.inl rfl
    · unfold m_rv
      rw [if_neg (by omega), if_neg (by omega), if_neg (by omega), if_neg (by omega), if_neg (by omega)]
      split
      · split
        · exact Or.inr (Or.inr rfl)
        · exact Or.inr (Or.inl rfl)
      · split
        · split
          · exact Or.inr (Or.inr rfl)
          · exact Or.inr (Or.inl rfl)
        · split
          · exact Or.inr (Or.inr rfl)
          · exact Or.inr (Or.inl rfl)
  · exact Or.inl rfl
theorem num_lt {b : Nat → Int} {n s : Nat} (hs : s ≤ n) (h : ¬ num b n s = -1) : s < n := by
  unfold num so at h
  by_cases e : s < n
  · exact e
  · rw [if_neg e, if_neg (by decide)] at h
    exact absurd rfl h
theorem ooI_some {t : List Int} : ∀ (ws : List (List Int)) (j : Int), ¬ ooI ws j t = -1 → t ∈ ws
  | [], j, h => absurd rfl h
  | w :: ws, j, h => by
    unfold ooI at h
    split at h
    · rename_i e; exact List.mem_cons.mpr (Or.inl e)
    · exact List.mem_cons_of_mem _ (ooI_some ws (j + 1) h)
theorem ooI_rng {t : List Int} : ∀ (ws : List (List Int)) (j : Int), ooI ws j t = -1 ∨ (j ≤ ooI ws j t ∧ ooI ws j t < j + (ws.length : Int))
  | [], j => Or.inl rfl
  | w :: ws, j => by
    unfold ooI
    rw [List.length_cons]
    split
    · exact Or.inr ⟨by omega, by omega⟩
    · rcases ooI_rng (t := t) ws (j + 1) with h | h
      · exact Or.inl h
      · exact Or.inr ⟨by omega, by omega⟩
theorem wrd_lt {b : Nat → Int} {n s : Nat} {od : Bool} (hs : s ≤ n) (h : ¬ wrd od (tk b n s) = -1) : s < n := by
  have : ∀ (ws : List (List Int)), (∀ w, w ∈ ws → ¬ w = []) → ¬ ooI ws 0 (tk b n s) = -1 → s < n := by
    intro ws hw hh
    have := hw _ (ooI_some ws 0 hh)
    cases e : tk b n s with
    | nil => exact absurd e this
    | cons c kw => exact tk_lt hs e
  unfold wrd at h
  split at h
  · exact this _ (by decide) h
  · exact this _ (by decide) h
theorem px_which_ok {b : Nat → Int} {n fi mo s l : Nat} (hs : s ≤ n) (hl : l ≤ 50) : Gd n Vs s l (px_which b n fi mo s l) := by
  unfold px_which
  split
  · rename_i h
    have h1 := num_lt (b := b) hs (by omega)
    have h2 := nx_2 (b := b) s h1
    exact ⟨h2.1, h2.2, Nat.le_refl _, hl, fun w hw v e => by cases e; exact hw _⟩
  · exact ⟨Nat.le_refl _, hs⟩
theorem px_part_ok {b : Nat → Int} {n : Nat} {od : Bool} {S : Option (Nat → Nat → Rs)} (hS : ∀ g, S = some g → IG n Vs g) : IG n Vs (px_part b n od S) := by
  intro s l hs hl
  unfold px_part
  split
  · rename_i e
    have h1 := tk_lt hs e
    have h2 := nx_2 (b := b) s h1
    cases S with
    | none => exact ⟨Nat.le_refl _, hs⟩
    | some g =>
      have h3 := hS g rfl (nx b n s) l h2.2 hl
      show Gd n Vs s l (match g (nx b n s) l with
        | .inl x => .inl x
        | .inr (s', l', f) => if tk b n s' = [93] then .inr (nx b n s', l', f) else .inl s')
      cases hg : g (nx b n s) l with
      | inl x => rw [hg] at h3; have h3 : nx b n s ≤ x ∧ x ≤ n := h3; exact ⟨by omega, h3.2⟩
      | inr z =>
        obtain ⟨s1, l1, f1⟩ := z
        rw [hg] at h3
        have h3 : nx b n s < s1 ∧ s1 ≤ n ∧ l ≤ l1 ∧ l1 ≤ 50 ∧ Vs f1 := h3
        show Gd n Vs s l (if tk b n s1 = [93] then .inr (nx b n s1, l1, f1) else .inl s1)
        split
        · rename_i e2
          have h4 := nx_2 (b := b) s1 (tk_lt h3.2.1 e2)
          exact ⟨by omega, h4.2, h3.2.2.1, h3.2.2.2.1, h3.2.2.2.2⟩
        · exact ⟨by omega, h3.2.1⟩
  · split
    · exact ⟨Nat.le_refl _, hs⟩
    · rename_i hq
      split
      · rename_i hnum
        have h1 := num_lt (b := b) hs hnum
        have h2 := nx_2 (b := b) s h1
        exact ⟨h2.1, h2.2, by omega, by omega, fun w hw v e => by cases e; have := num_b (b := b) hs; exact ⟨by omega, by omega⟩⟩
      · rename_i hnum
        have hnum : num b n s = -1 := Decidable.not_not.mp hnum
        have h1 := wrd_lt (b := b) (od := od) hs (fun z => hq (Or.inl ⟨hnum, z⟩))
        have h2 := nx_2 (b := b) s h1
        unfold px_word
        have fw : ∀ fi mo, Gd n Vs s l (px_which b n fi mo (nx b n s) (l + 1)) := by
          intro fi mo
          have := px_which_ok (b := b) (fi := fi) (mo := mo) (l := l + 1) h2.2 (by omega)
          cases hw : px_which b n fi mo (nx b n s) (l + 1) with
          | inl x => rw [hw] at this; have this : nx b n s ≤ x ∧ x ≤ n := this; exact ⟨by omega, this.2⟩
          | inr z =>
            obtain ⟨s1, l1, f1⟩ := z
            rw [hw] at this
            have this : nx b n s < s1 ∧ s1 ≤ n ∧ l + 1 ≤ l1 ∧ l1 ≤ 50 ∧ Vs f1 := this
            exact ⟨by omega, this.2.1, by omega, this.2.2.2.1, this.2.2.2.2⟩
        split
        · exact fw 5 6
        · split
          · exact fw 11 5
          · exact ⟨h2.1, h2.2, by omega, by omega, fun w hw v e => by cases e; exact hw _⟩
theorem px_term_ok {b : Nat → Int} {n : Nat} {od : Bool} {S : Option (Nat → Nat → Rs)} (hS : ∀ g, S = some g → IG n Vs g) : IG n Vs (px_term b n od S) := px_seq_ok opM_ok nx_2 (px_part_ok hS) Vs_cmb
theorem px_sumS_ok {b : Nat → Int} {n : Nat} {od : Bool} {S : Option (Nat → Nat → Rs)} (hS : ∀ g, S = some g → IG n Vs g) : IG n Vs (px_sumS b n od S) := px_seq_ok opA_ok nx_2 (px_term_ok hS) Vs_cmb
theorem px_sum_ok {b : Nat → Int} {n : Nat} {od : Bool} : ∀ r, IG n Vs (px_sum b n od r)
  | 0 => px_sumS_ok (fun g e => by cases e)
  | r + 1 => px_sumS_ok (fun g e => by cases e; exact px_sum_ok r)
theorem nts_ok {b : Nat → Int} {n : Nat} : ∀ k s, s ≤ n → s ≤ (nts b n k s).1 ∧ (nts b n k s).1 ≤ n
  | 0, s, h => ⟨Nat.le_refl _, h⟩
  | k + 1, s, h => by
    unfold nts
    split
    · rename_i e
      have h2 := nx_2 (b := b) s (tk_lt h e)
      have ih := nts_ok (b := b) k (nx b n s) h2.2
      exact ⟨by show s ≤ (nts b n k (nx b n s)).1; omega, ih.2⟩
    · exact ⟨Nat.le_refl _, h⟩
theorem f_not_01 {f : Option Int} (h : f_01 f) : f_01 (f_not f) := by
  rcases h with h | h | h <;> rw [h]
  · exact Or.inl rfl
  · exact Or.inr (Or.inr rfl)
  · exact Or.inr (Or.inl rfl)
theorem f_not_2 {f : Option Int} (h : f_01 f) : f_not (f_not f) = f := by
  rcases h with h | h | h <;> rw [h] <;> rfl
theorem px_not_ok {n s l c : Nat} {r : Rs} (h : Gd n Vt s l r) : Gd n Vt s l (px_not c r) := by
  unfold px_not
  cases r with
  | inl x => exact h
  | inr z =>
    obtain ⟨s1, l1, f1⟩ := z
    have h : s < s1 ∧ s1 ≤ n ∧ l ≤ l1 ∧ l1 ≤ 50 ∧ Vt f1 := h
    refine ⟨h.1, h.2.1, h.2.2.1, h.2.2.2.1, ?_⟩
    intro w hw
    have := h.2.2.2.2 w hw
    split
    · exact f_not_01 this
    · exact this
theorem px_cmp_ok {b : Nat → Int} {n : Nat} {S : Nat → Nat → Rs} (hS : IG n Vs S) : IG n Vt (px_cmp b n S) := by
  intro s l hs hl
  have h1 := hS s l hs hl
  unfold px_cmp
  cases hg : S s l with
  | inl x => rw [hg] at h1; exact h1
  | inr z =>
    obtain ⟨s1, l1, f1⟩ := z
    rw [hg] at h1
    have h1 : s < s1 ∧ s1 ≤ n ∧ l ≤ l1 ∧ l1 ≤ 50 ∧ Vs f1 := h1
    show Gd n Vt s l (match opC b n s1 with
      | none => .inl s1
      | some o => match S (nx b n s1) l1 with
        | .inl x => .inl x
        | .inr (s3, l3, g) => .inr (s3, l3, cmb o f1 g))
    cases ho : opC b n s1 with
    | none => exact ⟨by omega, h1.2.1⟩
    | some o =>
      have h2 := opC_ok s1 o h1.2.1 ho
      have h3 := nx_2 (b := b) s1 h2.1
      have h4 := hS (nx b n s1) l1 h3.2 h1.2.2.2.1
      show Gd n Vt s l (match S (nx b n s1) l1 with
        | .inl x => .inl x
        | .inr (s3, l3, g) => .inr (s3, l3, cmb o f1 g))
      cases hg2 : S (nx b n s1) l1 with
      | inl x => rw [hg2] at h4; have h4 : nx b n s1 ≤ x ∧ x ≤ n := h4; exact ⟨by omega, h4.2⟩
      | inr z =>
        obtain ⟨s2, l2, f2⟩ := z
        rw [hg2] at h4
        have h4 : nx b n s1 < s2 ∧ s2 ≤ n ∧ l1 ≤ l2 ∧ l2 ≤ 50 ∧ Vs f2 := h4
        exact ⟨by omega, h4.2.1, by omega, h4.2.2.2.1, cmp_01 h2.2⟩
theorem px_plain0_ok {b : Nat → Int} {n : Nat} {T : Option (Nat → Nat → Rs)} {S : Nat → Nat → Rs} (hT : ∀ g, T = some g → IG n Vt g) (hS : IG n Vs S) : IG n Vt (px_plain0 b n T S) := by
  intro s l hs hl
  unfold px_plain0
  split
  · rename_i e
    have h2 := nx_2 (b := b) s (tk_lt hs e)
    cases T with
    | none => exact ⟨Nat.le_refl _, hs⟩
    | some g =>
      have h3 := hT g rfl (nx b n s) l h2.2 hl
      show Gd n Vt s l (match g (nx b n s) l with
        | .inl x => .inl x
        | .inr (s', l', f) => if tk b n s' = [41] then .inr (nx b n s', l', f) else .inl s')
      cases hg : g (nx b n s) l with
      | inl x => rw [hg] at h3; have h3 : nx b n s ≤ x ∧ x ≤ n := h3; exact ⟨by omega, h3.2⟩
      | inr z =>
        obtain ⟨s1, l1, f1⟩ := z
        rw [hg] at h3
        have h3 : nx b n s < s1 ∧ s1 ≤ n ∧ l ≤ l1 ∧ l1 ≤ 50 ∧ Vt f1 := h3
        show Gd n Vt s l (if tk b n s1 = [41] then .inr (nx b n s1, l1, f1) else .inl s1)
        split
        · rename_i e2
          have h4 := nx_2 (b := b) s1 (tk_lt h3.2.1 e2)
          exact ⟨by omega, h4.2, h3.2.2.1, h3.2.2.2.1, h3.2.2.2.2⟩
        · exact ⟨by omega, h3.2.1⟩
  · exact px_cmp_ok hS s l hs hl
theorem px_plain_ok {b : Nat → Int} {n : Nat} {T : Option (Nat → Nat → Rs)} {S : Nat → Nat → Rs} (hT : ∀ g, T = some g → IG n Vt g) (hS : IG n Vs S) : IG n Vt (px_plain b n T S) := by
  intro s l hs hl
  have h1 := nts_ok (b := b) (n := n) 400 s hs
  have h2 := px_not_ok (c := (nts b n 400 s).2) (px_plain0_ok (b := b) hT hS (nts b n 400 s).1 l h1.2 hl)
  unfold px_plain
  cases hg : px_not (nts b n 400 s).2 (px_plain0 b n T S (nts b n 400 s).1 l) with
  | inl x => rw [hg] at h2; have h2 : (nts b n 400 s).1 ≤ x ∧ x ≤ n := h2; exact ⟨by omega, h2.2⟩
  | inr z =>
    obtain ⟨s1, l1, f1⟩ := z
    rw [hg] at h2
    have h2 : (nts b n 400 s).1 < s1 ∧ s1 ≤ n ∧ l ≤ l1 ∧ l1 ≤ 50 ∧ Vt f1 := h2
    exact ⟨by omega, h2.2⟩
theorem px_both_ok {b : Nat → Int} {n : Nat} {T : Option (Nat → Nat → Rs)} {S : Nat → Nat → Rs} (hT : ∀ g, T = some g → IG n Vt g) (hS : IG n Vs S) : IG n Vt (px_both b n T S) := px_seq_ok opAnd_ok nx_2 (px_plain_ok hT hS) Vt_cmb
theorem px_testT_ok {b : Nat → Int} {n : Nat} {T : Option (Nat → Nat → Rs)} {S : Nat → Nat → Rs} (hT : ∀ g, T = some g → IG n Vt g) (hS : IG n Vs S) : IG n Vt (px_testT b n T S) := px_seq_ok opOr_ok nx_2 (px_both_ok hT hS) Vt_cmb
theorem px_test_ok {b : Nat → Int} {n : Nat} {od : Bool} : ∀ r, IG n Vt (px_test b n od r)
  | 0 => px_testT_ok (fun g e => by cases e) (px_sum_ok 0)
  | r + 1 => px_testT_ok (fun g e => by cases e; exact px_test_ok r) (px_sum_ok (r + 1))
