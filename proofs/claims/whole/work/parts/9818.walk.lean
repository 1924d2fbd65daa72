/-! ===== the soundness of the abstract machine ===== -/
section AMY
variable {p : Program} {l : Launch} {e : Env} {R : Room} {s : State} {m : MethodId} {args : Array Value} {below : List Frame} {meth : Method} {c : Code} {Q : State → Prop} {D : va_G} {base : Nat} {xa : Nat → Nat} {cA : Nat → ClassId} {x : am_H} {nL n0 s0 : Nat} {cc : ByteArray}
variable {nx cn d : Nat} {L L' : am_L} {S S' : List am_V} {h h' : am_H} {rt : Option FieldType} {ini : Bool} {bp : Nat → Nat} {K : Nat → List am_V → am_H → Option am_O} {j : Option Nat} {i : am_I} {B : Nat → List am_I}
theorem am_one (cx : am_cx p s m args c D base xa cA x cc nL n0 (am_ON cn)) (hX : am_X base xa x s) (hini : ini = true → meth.name = "<init>") (hK : am_KC l D base xa cA x K d) (hS8 : am_SC8 l D base xa cA x) (hR : d + 1 ≤ R.frames ∧ 64 * (d + 1) ≤ R.locals) (hd6 : 6 ≤ d) (hg : am_gb cn cc rt ini bp nx i = true) (hs : am_step K i L S h = some (.inr (j, L', S', h'))) (hc1 : h'.1.1 ≤ n0 + R.cells) (hs1 : h'.1.2.1 ≤ s0 + R.slots) (hk : am_at p l e R s m args below meth c Q D base xa cA x nL n0 s0 (am_nj nx bp j) L' S' h') : am_at p l e R s m args below meth c Q D base xa cA x nL n0 s0 i.2.1 L S h := by
  obtain ⟨op, pc, cst, ns⟩ := i
  have h6 : 7 ≤ R.frames ∧ 448 ≤ R.locals := ⟨by omega, by omega⟩
  match op, hg, hs with
  | 0, hg, hs => exact sx_0 cx hg hs hk
  | 1, hg, hs => exact sx_1 cx hg hs hk
  | 2, hg, hs => exact sx_2 cx hg hs hk
  | 3, hg, hs => exact sx_3 cx hX hg hs hk
  | 4, hg, hs => exact sx_4 cx hg hs hk
  | 5, hg, hs => exact sx_5 cx hg hs hk
  | 6, hg, hs => exact sx_6 cx hg hs hk
  | 7, hg, hs => exact sx_7 cx hg hs hk
  | 8, hg, hs => exact sx_8 cx hg hs hk
  | 9, hg, hs => exact sx_9 cx hg hs hk
  | 10, hg, hs => exact sx_10 cx hg hs hk
  | 11, hg, hs => exact sx_11 cx hg hs hk
  | 12, hg, hs => exact sx_12 cx hg hs hk
  | 13, hg, hs => simp only [am_step] at hs; cases hs
  | 14, hg, hs => exact sx_14 cx hg hs hk
  | 15, hg, hs => exact sx_15 cx hg hs hk
  | 16, hg, hs => exact sx_16 cx hg hs hk
  | 17, hg, hs => simp only [am_step] at hs; cases hs
  | 18, hg, hs => exact sx_18 cx hg hs hk
  | 19, hg, hs => exact sx_19 cx hg hs hk
  | 20, hg, hs => exact sx_20 cx hg hs hk
  | 21, hg, hs => exact sx_21 cx hg hs hk
  | 22, hg, hs => exact sx_22 cx hg hs hk
  | 23, hg, hs => exact sx_23 cx hg hs hk
  | 24, hg, hs => exact sx_24 cx hg hs hk
  | 25, hg, hs => exact sx_25 cx hg hs hk
  | 26, hg, hs => exact sx_26 cx hg hs hk
  | 27, hg, hs => exact sx_27 cx hg hs hk
  | 28, hg, hs => exact sx_28 cx hg hs hk
  | 29, hg, hs => exact sx_29 cx hg hs hk
  | 30, hg, hs => exact sx_30 cx hX hg hs hk
  | 31, hg, hs => exact sx_31 cx hg hs hk
  | 32, hg, hs => exact sx_32 cx hg hs hk
  | 33, hg, hs => exact sx_33 cx hg hs hk
  | 34, hg, hs => exact sx_34 cx hg hs hk
  | 35, hg, hs => exact sx_35 cx hg hs hk
  | 36, hg, hs => exact sx_36 cx hg hs hk
  | 37, hg, hs => exact sx_37 cx hg hs hk
  | 38, hg, hs => exact sx_38 cx hX hg hs hk
  | 39, hg, hs => exact sx_39 cx hX hc1 hs1 hg hs hk
  | 40, hg, hs => simp only [am_step] at hs; cases hs
  | 41, hg, hs => exact sx_41 cx hg hs hk
  | 42, hg, hs => exact sx_42 cx hini hg hs hk
  | 43, hg, hs => simp only [am_step] at hs; cases hs
  | 44, hg, hs => exact sx_44 cx hc1 hs1 hg hs hk
  | 45, hg, hs => exact sx_45 cx hX hK hR hc1 hs1 hg hs hk
  | 46, hg, hs => exact sx_46 cx hX hK hR hc1 hs1 hg hs hk
  | 47, hg, hs => exact sx_47 cx hR hg hs hk
  | 48, hg, hs => exact sx_48 cx hR hc1 hs1 hg hs hk
  | 49, hg, hs => simp only [am_step] at hs; cases hs
  | 50, hg, hs => exact sx_50 cx hX hS8 h6 hc1 hs1 hg hs hk
  | 51, hg, hs => exact sx_51 cx hX hS8 h6 hc1 hs1 hg hs hk
  | 52, hg, hs => exact sx_52 cx hR hg hs hk
  | 53, hg, hs =>
    simp only [am_step] at hs
    split at hs
    · exact absurd hs (fun z => am_rt_no z)
    · cases hs
  | 54, hg, hs =>
    simp only [am_step] at hs
    split at hs
    · exact absurd hs (fun z => am_rt_no z)
    · cases hs
  | 55, hg, hs =>
    simp only [am_step] at hs
    split at hs
    · exact absurd hs (fun z => am_rt_no z)
    · cases hs
  | 56, hg, hs =>
    simp only [am_step] at hs
    split at hs
    · exact absurd hs (fun z => am_rt_no z)
    · cases hs
  | 57, hg, hs =>
    simp only [am_step] at hs
    split at hs
    · exact absurd (am_ok_inj hs).2 (fun z => am_rt_no z)
    · cases hs
  | 58, hg, hs => exact sx_58 cx hg hs hk
  | n + 59, hg, hs => simp only [am_step] at hs; cases hs
theorem am_run_pres (hex : am_ext x) (hK : am_KO x K) (hck : ∀ b, am_ckL cn cc rt ini bp (B b) = true) {o : am_O} : ∀ (n : Nat) (is : List am_I) (L : am_L) (S : List am_V) (h : am_H), am_ckL cn cc rt ini bp is = true → am_run K B n is L S h = some o → am_okL L → am_okS S → am_okh x h → (∀ z, o.1 = some z → am_okv z) ∧ am_okh x o.2 ∧ h.1.1 ≤ o.2.1.1 ∧ h.1.2.1 ≤ o.2.1.2.1
  | 0, _, _, _, _, _, r, _, _, _ => by simp [am_run] at r
  | n + 1, [], _, _, _, _, r, _, _, _ => by simp [am_run] at r
  | n + 1, i :: is, L, S, h, ck, r, o1, o2, o3 => by
    rw [am_ckL, Bool.and_eq_true] at ck
    rw [am_run] at r
    split at r
    · cases r
    · rename_i o' es
      cases r
      obtain ⟨e1, e2⟩ := am_ret ck.1 es
      rw [e1]
      refine ⟨fun z hz => ?_, o3, Nat.le_refl _, Nat.le_refl _⟩
      rcases e2 with ⟨-, ⟨v, hS, hv⟩, -⟩ | ⟨-, ⟨v, hS, hv⟩, -⟩ | ⟨-, ⟨v, hS, hv⟩, -⟩ | ⟨-, ⟨hS, hv⟩, -⟩ | ⟨-, ⟨v, -, hS, hv⟩, -⟩
      · rw [hv] at hz; cases hz; rw [hS] at o2; exact am_okd o2
      · rw [hv] at hz; cases hz; rw [hS] at o2; exact am_okd o2
      · rw [hv] at hz; cases hz; rw [hS] at o2; exact am_okd o2
      · rw [hv] at hz; cases hz
      · rw [hv] at hz; cases hz; rw [hS] at o2; exact am_okd o2
    · rename_i L1 S1 h1 es
      obtain ⟨a1, a2, a3, a4, a5⟩ := am_pres hex hK ck.1 es o1 o2 o3
      obtain ⟨b1, b2, b3, b4⟩ := am_run_pres hex hK hck n is L1 S1 h1 ck.2 r a1 a2 a3
      exact ⟨b1, b2, by omega, by omega⟩
    · rename_i b L1 S1 h1 es
      obtain ⟨a1, a2, a3, a4, a5⟩ := am_pres hex hK ck.1 es o1 o2 o3
      obtain ⟨b1, b2, b3, b4⟩ := am_run_pres hex hK hck n (B b) L1 S1 h1 (hck b) r a1 a2 a3
      exact ⟨b1, b2, by omega, by omega⟩
theorem am_KC_KO (hK : am_KC l D base xa cA x K d) : am_KO x K := fun y as h v h' hy e o1 o2 => (hK y as h v h' hy e o1 o2).2
/-- a run of the program is a run of the machine -/
theorem am_walk (cx : am_cx p s m args c D base xa cA x cc nL n0 (am_ON cn)) (hX : am_X base xa x s) (hini : ini = true → meth.name = "<init>") (hK : am_KC l D base xa cA x K d) (hS8 : am_SC8 l D base xa cA x) (hR : d + 1 ≤ R.frames ∧ 64 * (d + 1) ≤ R.locals) (hd6 : 6 ≤ d) (hck : ∀ b, am_ckL cn cc rt ini (fun b => am_hd (B b)) (B b) = true) {o : am_O} (hc1 : o.2.1.1 ≤ n0 + R.cells) (hs1 : o.2.1.2.1 ≤ s0 + R.slots)
    (hret : ∀ (nx : Nat) (i : am_I) (L : am_L) (S : List am_V) (h : am_H), am_gb cn cc rt ini (fun b => am_hd (B b)) nx i = true → am_step K i L S h = some (.inl o) → am_at p l e R s m args below meth c Q D base xa cA x nL n0 s0 i.2.1 L S h) :
    ∀ (n : Nat) (is : List am_I) (L : am_L) (S : List am_V) (h : am_H), am_ckL cn cc rt ini (fun b => am_hd (B b)) is = true → am_run K B n is L S h = some o → am_at p l e R s m args below meth c Q D base xa cA x nL n0 s0 (am_hd is) L S h
  | 0, _, _, _, _, _, r => by simp [am_run] at r
  | n + 1, [], _, _, _, _, r => by simp [am_run] at r
  | n + 1, i :: is, L, S, h, ck, r => by
    intro o1 o2 o3
    rw [am_ckL, Bool.and_eq_true] at ck
    rw [am_run] at r
    split at r
    · cases r
    · rename_i o' es
      cases r
      exact hret (am_hd is) i L S h ck.1 es o1 o2 o3
    · rename_i L1 S1 h1 es
      obtain ⟨a1, a2, a3, a4, a5⟩ := am_pres cx.2.2.2.2.2.2.2 (am_KC_KO hK) ck.1 es o1 o2 o3
      obtain ⟨b1, b2, b3, b4⟩ := am_run_pres cx.2.2.2.2.2.2.2 (am_KC_KO hK) hck n is L1 S1 h1 ck.2 r a1 a2 a3
      exact am_one (j := none) cx hX hini hK hS8 hR hd6 ck.1 es (by omega) (by omega) (am_walk cx hX hini hK hS8 hR hd6 hck hc1 hs1 hret n is L1 S1 h1 ck.2 r) o1 o2 o3
    · rename_i b L1 S1 h1 es
      obtain ⟨a1, a2, a3, a4, a5⟩ := am_pres cx.2.2.2.2.2.2.2 (am_KC_KO hK) ck.1 es o1 o2 o3
      obtain ⟨b1, b2, b3, b4⟩ := am_run_pres cx.2.2.2.2.2.2.2 (am_KC_KO hK) hck n (B b) L1 S1 h1 (hck b) r a1 a2 a3
      exact am_one (j := some b) cx hX hini hK hS8 hR hd6 ck.1 es (by omega) (by omega) (am_walk cx hX hini hK hS8 hR hd6 hck hc1 hs1 hret n (B b) L1 S1 h1 (hck b) r) o1 o2 o3
end AMY
