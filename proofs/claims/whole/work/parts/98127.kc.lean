/-! ===== one instruction: what the program's step says holds of the machine ===== -/
/-- what is known of the callees -/
def am_KC (l : Launch) (D : va_G) (base : Nat) (xa : Nat → Nat) (cA : Nat → ClassId) (x : am_H) (K : Nat → List am_V → am_H → Option am_O) (d : Nat) : Prop :=
  ∀ (y : Nat) (as : List am_V) (h : am_H) (v : Option am_V) (h' : am_H), y < 288 → K y as h = some (v, h') → am_okS as → am_okh x h → am_Met l D base xa cA x d (am_wsM y) (am_yN y) as h v h' ∧ (∀ z, v = some z → am_okv z) ∧ am_okh x h' ∧ h.1.1 ≤ h'.1.1 ∧ h.1.2.1 ≤ h'.1.2.1
def am_wJ (y : MethodName) (b : ByteArray) (n : Nat) (r : Option FieldType) : List Cond := Cond.code y b n r :: am_T
/-- the texts: length and characters, by the library's own methods -/
def am_SC8 (l : Launch) (D : va_G) (base : Nat) (xa : Nat → Nat) (cA : Nat → ClassId) (x : am_H) : Prop :=
  ∀ (q n : Nat) (h : am_H), q < 64 → x.1.2.2 q = .inl (8, n) → am_okh x h → (3 ≤ q ∧ q < 21) ∧ am_Met l D base xa cA x 6 (am_wJ yJ0_length_8abf5 cJ0_length_8abf5 1 (some .int)) yJ0_length_8abf5 [.inr (.inr (some q))] h (some (.inl n)) h ∧
    ∀ i : Int, 0 ≤ i → i < (n : Int) → am_Met l D base xa cA x 6 (am_wJ yJ0_charAt_5068e cJ0_charAt_5068e 2 (some .char)) yJ0_charAt_5068e [.inr (.inr (some q)), .inl i] h (some (.inl (x.2.1 q i.toNat))) h
section AMS
variable {p : Program} {l : Launch} {e : Env} {R : Room} {s : State} {m : MethodId} {args : Array Value} {below : List Frame} {meth : Method} {c : Code} {Q : State → Prop} {D : va_G} {base : Nat} {xa : Nat → Nat} {cA : Nat → ClassId} {x : am_H} {nL n0 s0 : Nat} {cc : ByteArray} {own : String}
variable {pc nx : Nat} {L : am_L} {S : List am_V} {h : am_H}
theorem so_46s (cx : am_cx p s m args c D base xa cA x cc nL n0 own) (hX : am_X base xa x s) {y : MethodName} {b : ByteArray} {ml np k d q : Nat} {rt : Option FieldType} {w : List Cond} {as : List am_V} {v : Option am_V} (hg : am_dc cc pc nx (.invokevirtual k) 3) (hse : Cond.selects "java/lang/String" y y ∈ am_T) (hl : Cond.methodLink own k y ∈ am_T) (hmi : am_mi w y b ml rt np) (hst : Cond.instanceMethod y ∈ am_T)
    (hR : d + 1 ≤ R.frames ∧ 64 * (d + 1) ≤ R.locals) (hn : np + 1 ≤ S.length ∧ am_sz (S.drop (np + 1)) ≤ 8) (hta : (S.take (np + 1)).reverse = .inr (.inr (some q)) :: as) (hq : 3 ≤ q ∧ q < 21)
    (hM : am_Met l D base xa cA x d w y (.inr (.inr (some q)) :: as) h v h) (hv : am_okh x h → ∀ z, v = some z → am_okv z) (hc1 : h.1.1 ≤ n0 + R.cells) (hs1 : h.1.2.1 ≤ s0 + R.slots)
    (hk : am_at p l e R s m args below meth c Q D base xa cA x nL n0 s0 nx L (v.toList ++ S.drop (np + 1)) h) : am_at p l e R s m args below meth c Q D base xa cA x nL n0 s0 pc L S h := by
  obtain ⟨hx, hb, hml, hown, hts, hK, hbs, hex⟩ := cx
  obtain ⟨hd, rfl⟩ := hg
  intro o1 o2 o3 H locs ls cells slots hP hS hl1 hc hs T hT X
  have hz := am_size X hT hP hS hbs hc
  have hlen : (as.map (am_cv (am_ad base xa))).length = np := by
    have := congrArg List.length hta
    rw [List.length_reverse, List.length_take, List.length_cons] at this
    rw [List.length_map]
    omega
  have hst0 : S.map (am_cv (am_ad base xa)) = (as.map (am_cv (am_ad base xa))).reverse ++ .ref (am_ad base xa q) :: (S.drop (np + 1)).map (am_cv (am_ad base xa)) := by
    rw [am_take (n := np + 1), hta, List.map_cons, List.reverse_cons, List.append_assoc]
    rfl
  have hW : 2 * (F0 m pc ls (S.map (am_cv (am_ad base xa)))).monitorRoom + (((S.drop (np + 1)).map (am_cv (am_ad base xa))).map fun v => v.category).sum ≤ 8 := by
    show 2 * 0 + _ ≤ _
    rw [am_sz_cv]
    omega
  have hR2 : (am_rm d h h).frames + 1 ≤ R.frames ∧ 8 + (ml + 11) + (am_rm d h h).locals ≤ R.locals := ⟨hR.1, by show 8 + (ml + 11) + 64 * d ≤ _; have := hmi.2.2.2.2.2.2; omega⟩
  have hE := hX.2.2.2.2.2.2.2.2.1
  have hrec := vk_recv (i := q - 3) hE (by omega) hS
  have e3 : xa (3 + (q - 3)) = am_ad base xa q := by
    rw [show 3 + (q - 3) = q by omega]
    unfold am_ad
    rw [if_pos (by omega)]
  rw [e3] at hrec
  refine am_go (h' := h) (a := (Value.ref (am_ad base xa q) :: as.map (am_cv (am_ad base xa))).toArray) (st0 := S.map (am_cv (am_ad base xa))) (S' := S.drop (np + 1)) ?_ hT X hz hS hl1 hc hs (Nat.le_refl _) (Nat.le_refl _) o1 (am_ok_app (hv o3) (am_ok_drop o2)) o3 hk
  exact va_runV (C := "java/lang/String") (As := as.map (am_cv (am_ad base xa))) ⟨hx, hb, hml, hown, hts⟩ hM ⟨callB_of np hts (am_mi_good hmi) hmi.1 rfl rfl (hts _ hmi.2.2.1) (hts _ hl) ⟨hmi.2.2.2.1, hmi.2.2.2.2.1, hmi.2.2.2.2.2.1⟩ hR2, hts _ hst, hts _ hse⟩ ⟨am_blind, hrec, am_pre (as := .ref (am_ad base xa q) :: as.map (am_cv (am_ad base xa))) hK hX hP hz hS⟩ rfl hlen hl1.2.1 hst0 hW hd ⟨by omega, by omega⟩
end AMS
