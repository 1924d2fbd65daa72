/-! ===== a contract out of a body's walk ===== -/
theorem am_ent_mem {ad : Nat → Nat} : ∀ (as : List am_V) (i k : Nat) (v : am_V), (am_ent as)[k]? = some (some v) → (i + k, am_cv ad v) ∈ lv_args i (as.map (am_cv ad))
  | [], i, k, v, h => by simp [am_ent] at h
  | .inl y :: r, i, k, v, h => by
    rw [List.map_cons, lv_args]
    rw [am_ent] at h
    cases k with
    | zero =>
      rw [List.getElem?_cons_zero] at h
      cases h
      exact List.mem_cons_self
    | succ k =>
      rw [List.getElem?_cons_succ] at h
      have := am_ent_mem (ad := ad) r (i + 1) k v h
      refine List.mem_cons_of_mem _ ?_
      rw [if_neg (show ¬ (am_cv ad (.inl y)).category = 2 by rw [am_ct_cv]; show ¬ (1 : Nat) = 2; omega), show i + (k + 1) = i + 1 + k by omega]
      exact this
  | .inr (.inl y) :: r, i, k, v, h => by
    rw [List.map_cons, lv_args]
    rw [am_ent] at h
    match k, h with
    | 0, h =>
      rw [List.getElem?_cons_zero] at h
      cases h
      exact List.mem_cons_self
    | 1, h =>
      rw [List.getElem?_cons_succ, List.getElem?_cons_zero] at h
      cases h
    | k + 2, h =>
      rw [List.getElem?_cons_succ, List.getElem?_cons_succ] at h
      have := am_ent_mem (ad := ad) r (i + 2) k v h
      refine List.mem_cons_of_mem _ ?_
      rw [if_pos (show (am_cv ad (.inr (.inl y))).category = 2 by rw [am_ct_cv]; rfl), show i + (k + 2) = i + 2 + k by omega]
      exact this
  | .inr (.inr y) :: r, i, k, v, h => by
    rw [List.map_cons, lv_args]
    rw [am_ent] at h
    cases k with
    | zero =>
      rw [List.getElem?_cons_zero] at h
      cases h
      exact List.mem_cons_self
    | succ k =>
      rw [List.getElem?_cons_succ] at h
      have := am_ent_mem (ad := ad) r (i + 1) k v h
      refine List.mem_cons_of_mem _ ?_
      rw [if_neg (show ¬ (am_cv ad (.inr (.inr y))).category = 2 by rw [am_ct_cv]; show ¬ (1 : Nat) = 2; omega), show i + (k + 1) = i + 1 + k by omega]
      exact this
theorem am_sl_len {ad : Nat → Nat} : ∀ as : List am_V, (lg_sl (as.map (am_cv ad))).length = (am_ent as).length
  | [] => rfl
  | .inl y :: r => by
    have := am_sl_len (ad := ad) r
    show ((if _ then _ else _) ++ lg_sl _).length = _
    rw [if_neg (show ¬ (am_cv ad (.inl y)).category = 2 by rw [am_ct_cv]; show ¬ (1 : Nat) = 2; omega), am_ent, List.length_append, List.length_cons, this]
    simp; omega
  | .inr (.inl y) :: r => by
    have := am_sl_len (ad := ad) r
    show ((if _ then _ else _) ++ lg_sl _).length = _
    rw [if_pos (show (am_cv ad (.inr (.inl y))).category = 2 by rw [am_ct_cv]; rfl), am_ent, List.length_append, List.length_cons, List.length_cons, this]
    simp; omega
  | .inr (.inr y) :: r => by
    have := am_sl_len (ad := ad) r
    show ((if _ then _ else _) ++ lg_sl _).length = _
    rw [if_neg (show ¬ (am_cv ad (.inr (.inr y))).category = 2 by rw [am_ct_cv]; show ¬ (1 : Nat) = 2; omega), am_ent, List.length_append, List.length_cons, this]
    simp; omega
theorem am_loc_lh {ad : Nat → Nat} {as : List am_V} {n : Nat} (hn : (am_ent as).length ≤ n) : am_lh ad ((lg_sl (as.map (am_cv ad)) ++ List.replicate (n - (lg_sl (as.map (am_cv ad))).length) Slot.unset).toArray) n (am_loc n as) := by
  have hl := lv_entry (as.map (am_cv ad)) (n := n) (by rw [am_sl_len]; exact hn)
  refine ⟨by rw [am_loc, List.length_append, List.length_replicate]; omega, hl.1, hl.2.1, fun q hq => hl.2.2 q ?_⟩
  obtain ⟨k, hk, hkv⟩ := List.mem_filterMap.mp hq
  split at hkv
  · rename_i w hw
    rw [← Option.some.inj hkv]
    have h2 : (am_ent as)[k]? = some (some w) := by
      rw [am_loc] at hw
      by_cases g : k < (am_ent as).length
      · rwa [List.getElem?_append_left g] at hw
      · rw [List.getElem?_append_right (by omega)] at hw
        have := (List.getElem?_eq_some_iff.mp hw)
        obtain ⟨g1, g2⟩ := this
        simp at g2
    have := am_ent_mem (ad := ad) as 0 k w h2
    rwa [Nat.zero_add] at this
  · cases hkv
theorem am_ent_ok : ∀ (as : List am_V), am_okS as → ∀ (k : Nat) (v : am_V), (am_ent as)[k]? = some (some v) → am_okv v
  | [], _, k, v, h => by simp [am_ent] at h
  | .inl y :: r, o, k, v, h => by
    rw [am_ent] at h
    cases k with
    | zero => rw [List.getElem?_cons_zero] at h; cases h; exact am_okd o
    | succ k => rw [List.getElem?_cons_succ] at h; exact am_ent_ok r (am_okt o) k v h
  | .inr (.inl y) :: r, o, k, v, h => by
    rw [am_ent] at h
    match k, h with
    | 0, h => rw [List.getElem?_cons_zero] at h; cases h; exact am_okd o
    | 1, h => rw [List.getElem?_cons_succ, List.getElem?_cons_zero] at h; cases h
    | k + 2, h => rw [List.getElem?_cons_succ, List.getElem?_cons_succ] at h; exact am_ent_ok r (am_okt o) k v h
  | .inr (.inr y) :: r, o, k, v, h => by
    rw [am_ent] at h
    cases k with
    | zero => rw [List.getElem?_cons_zero] at h; cases h; exact am_okd o
    | succ k => rw [List.getElem?_cons_succ] at h; exact am_ent_ok r (am_okt o) k v h
theorem am_loc_ok {as : List am_V} {n : Nat} (o : am_okS as) : am_okL (am_loc n as) := by
  intro k v h
  rw [am_loc] at h
  by_cases g : k < (am_ent as).length
  · rw [List.getElem?_append_left g] at h
    exact am_ent_ok as o k v h
  · rw [List.getElem?_append_right (by omega)] at h
    obtain ⟨g1, g2⟩ := List.getElem?_eq_some_iff.mp h
    simp at g2
theorem am_Met_of {l : Launch} {D : va_G} {base : Nat} {xa : Nat → Nat} {cA : Nat → ClassId} {x : am_H} {d : Nat} {y : MethodName} {b : ByteArray} {ml : Nat} {rt : Option FieldType} {as : List am_V} {h : am_H} {v : Option am_V} {h' : am_H} (hy : plainName y.cls = true) (hn : (am_ent as).length ≤ ml) (hex : am_ext x) (oS : am_okS as) (oh : am_okh x h)
    (body : ∀ (p : Program) (e : Env) (s : State) (m : MethodId) (args : Array Value) (below : List Frame) (meth : Method) (c : Code), am_cx p s m args c D base xa cA x b ml h.1.1 y.cls → am_X base xa x s → meth.sig.returnType = rt → meth.locks = false → meth.name = y.name →
      am_at p l e (am_rm d h h') s m args below meth c (MQ below (am_Qc D base xa cA v h') args s (h'.1.1 - h.1.1) (h'.1.2.1 - h.1.2.1) (fun q => base ≤ q)) D base xa cA x ml h.1.1 h.1.2.1 0 (am_loc ml as) [] h) :
    am_Met l D base xa cA x d (Cond.code y b ml rt :: am_T) y as h v h' := by
  refine Met.ofW (cc := b) (maxL := ml) (ret := rt) hy rfl ?_
  intro p e s m args below meth c s₁ B hml hv
  obtain ⟨rfl, hsz, hP, hK, hX⟩ := hv
  have hts := atoms_spec (ws := Cond.code y b ml rt :: am_T) B.pre
  have hown : s.vm.findClass y.cls = some m.cls := findClass_of_methodNamed B.named
  rw [lg_entry_eq]
  exact body p e s m _ below meth c ⟨B.exec, B.bytes, hml, hown, fun w hw => hts w (List.mem_cons_of_mem _ hw), hK, hsz, hex⟩ hX B.returns B.notSynchronized (name_of_methodNamed B.named B.method).1 (am_loc_ok oS) am_ok0 oh s.heap [] _ 0 0 hP va_S.rf (am_loc_lh hn) (Nat.zero_add _) (Nat.zero_add _)
