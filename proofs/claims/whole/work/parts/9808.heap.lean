/-! ===== the operations that read and write cells ===== -/
theorem am_pk_spec {t q : Nat} {i : Int} {h : am_H} (e : am_pk t q i h = true) : ∃ n, h.1.2.2 q = .inl (t, n) ∧ 0 ≤ i ∧ i < (n : Int) := by
  unfold am_pk at e
  split at e
  · rename_i t' n hs
    obtain ⟨rfl, a, b⟩ := of_decide_eq_true e
    exact ⟨n, hs, a, b⟩
  · cases e
theorem am_ob_spec {ci q : Nat} {h : am_H} (e : am_ob ci q h = true) : h.1.2.2 q = .inr ci := by
  unfold am_ob at e
  split at e
  · rename_i c hs
    rw [hs, of_decide_eq_true e]
  · cases e
theorem am_at_arr {x h : am_H} {q t n : Nat} (ok : am_okh x h) (ex : am_ext x) (e : h.1.2.2 q = .inl (t, n)) (ht : t < 7) : 64 ≤ q ∧ q < 64 + h.1.1 := by
  obtain ⟨o1, o2, -⟩ := ok
  constructor
  · rcases Nat.lt_or_ge q 64 with g | g
    · rw [(o2 q g).1] at e
      rcases ex q g with z | ⟨k, z | z⟩
      · rw [z] at e; cases e
      · rw [z] at e; cases e; omega
      · rw [z] at e; cases e; omega
    · exact g
  · rcases Nat.lt_or_ge q (64 + h.1.1) with g | g
    · exact g
    · rw [o1 q g] at e; cases e
theorem am_at_obj {x h : am_H} {q ci : Nat} (ok : am_okh x h) (ex : am_ext x) (e : h.1.2.2 q = .inr ci) (hc : ci ≠ 99) : 64 ≤ q ∧ q < 64 + h.1.1 := by
  obtain ⟨o1, o2, -⟩ := ok
  constructor
  · rcases Nat.lt_or_ge q 64 with g | g
    · rw [(o2 q g).1] at e
      rcases ex q g with z | ⟨k, z | z⟩
      · rw [z] at e; cases e; exact absurd rfl hc
      · rw [z] at e; cases e
      · rw [z] at e; cases e
    · exact g
  · rcases Nat.lt_or_ge q (64 + h.1.1) with g | g
    · exact g
    · rw [o1 q g] at e; cases e; exact absurd rfl hc
theorem am_u1_self {α : Type} {f : Nat → α} {i : Nat} {v : α} : am_u1 f i v i = v := by simp [am_u1]
theorem am_u1_ne {α : Type} {f : Nat → α} {i j : Nat} {v : α} (h : j ≠ i) : am_u1 f i v j = f j := by simp [am_u1, h]
/-- one cell's numbers change -/
theorem am_okh_A {x h : am_H} {q : Nat} {f : Nat → Int} (ok : am_okh x h) (hq : 64 ≤ q) (hf : ∀ j, am_r8 (f j) ∧ (am_k4 (h.1.2.2 q) j → am_r4 (f j))) : am_okh x (am_hA h q f) := by
  obtain ⟨o1, o2, o3, o4, o5⟩ := ok
  refine ⟨o1, fun r hr => ⟨(o2 r hr).1, ?_⟩, fun r j => ?_, o4, o5⟩
  · show am_u1 h.2.1 q f r = _
    rw [am_u1_ne (by omega)]
    exact (o2 r hr).2
  · show am_r8 (am_u1 h.2.1 q f r j) ∧ _
    by_cases hr : r = q
    · subst hr
      show am_r8 (am_u1 h.2.1 r f r j) ∧ (_ → am_r4 (am_u1 h.2.1 r f r j))
      rw [am_u1_self]
      exact hf j
    · show am_r8 (am_u1 h.2.1 q f r j) ∧ (_ → am_r4 (am_u1 h.2.1 q f r j))
      rw [am_u1_ne hr]
      exact o3 r j
theorem am_hI_A (h : am_H) (q k : Nat) (v : Int) : am_hI h q k v = am_hA h q (am_u1 (h.2.1 q) k v) := rfl
theorem am_okh_I {x h : am_H} {q k : Nat} {v : Int} (ok : am_okh x h) (hq : 64 ≤ q) (hv : am_r8 v ∧ (am_k4 (h.1.2.2 q) k → am_r4 v)) : am_okh x (am_hI h q k v) := by
  rw [am_hI_A]
  refine am_okh_A ok hq (fun j => ?_)
  by_cases hj : j = k
  · subst hj
    rw [am_u1_self]
    exact hv
  · rw [am_u1_ne hj]
    exact ok.2.2.1 q j
theorem am_okh_P {x h : am_H} {q k : Nat} {v : Option Nat} (ok : am_okh x h) : am_okh x (am_hP h q k v) := ok
theorem am_hI_other {h : am_H} {q k : Nat} {v : Int} : ∀ r, r ≠ q → (am_hI h q k v).1.2.2 r = h.1.2.2 r ∧ (am_hI h q k v).2.1 r = h.2.1 r ∧ (am_hI h q k v).2.2 r = h.2.2 r :=
  fun r hr => ⟨rfl, by show am_u1 h.2.1 q _ r = _; rw [am_u1_ne hr], rfl⟩
theorem am_hP_other {h : am_H} {q k : Nat} {v : Option Nat} : ∀ r, r ≠ q → (am_hP h q k v).1.2.2 r = h.1.2.2 r ∧ (am_hP h q k v).2.1 r = h.2.1 r ∧ (am_hP h q k v).2.2 r = h.2.2 r :=
  fun r hr => ⟨rfl, rfl, by show am_u1 h.2.2 q _ r = _; rw [am_u1_ne hr]⟩
theorem am_hA_other {h : am_H} {q : Nat} {f : Nat → Int} : ∀ r, r ≠ q → (am_hA h q f).1.2.2 r = h.1.2.2 r ∧ (am_hA h q f).2.1 r = h.2.1 r ∧ (am_hA h q f).2.2 r = h.2.2 r :=
  fun r hr => ⟨rfl, by show am_u1 h.2.1 q _ r = _; rw [am_u1_ne hr], rfl⟩
section AMC
variable {p : Program} {l : Launch} {e : Env} {R : Room} {s : State} {m : MethodId} {args : Array Value} {below : List Frame} {meth : Method} {c : Code} {Q : State → Prop} {D : va_G} {base : Nat} {xa : Nat → Nat} {cA : Nat → ClassId} {x : am_H} {nL n0 s0 : Nat} {cc : ByteArray} {own : String}
variable {pc nx : Nat} {L : am_L} {S : List am_V} {h : am_H}
theorem am_size {T : State} {H : Heap} {locs : List Loc} {cells slots : Nat} (X : Stand p l e R s m args below meth c T locs cells slots) (hT : T.heap = H) (hP : va_P D vwCl (am_ws base (am_ad base xa) cA h) H) (hS : va_S (fun q => base ≤ q) s.heap H locs) (hs0 : s.heap.size = base + n0) (hc : cells + n0 = h.1.1) : H.size = base + h.1.1 := by
  have h1 := X.heapSize
  rw [hT] at h1
  have h2 := hS.1
  have h3 : h.1.1 = 0 ∨ base + (h.1.1 - 1) < H.size := by
    rcases Nat.eq_zero_or_pos h.1.1 with z | z
    · exact Or.inl z
    · exact Or.inr (hP _ _ (am_ws_get (i := h.1.1 - 1) (by omega))).lt
  omega
/-- a step that reads a cell -/
theorem am_read {S' : List am_V} (ok : am_okL L → am_okS S → am_okh x h → am_okS S')
    (st : am_okS S → am_okh x h → ∀ (H : Heap) (locs : List Loc) (ls : Array Slot) (cells slots : Nat), va_P D vwCl (am_ws base (am_ad base xa) cA h) H → va_S (fun q => base ≤ q) s.heap H locs → W p l e R s m args below meth c H locs cells slots Q (F0 m nx ls (S'.map (am_cv (am_ad base xa)))) → W p l e R s m args below meth c H locs cells slots Q (F0 m pc ls (S.map (am_cv (am_ad base xa)))))
    (k : am_at p l e R s m args below meth c Q D base xa cA x nL n0 s0 nx L S' h) : am_at p l e R s m args below meth c Q D base xa cA x nL n0 s0 pc L S h :=
  fun o1 o2 o3 H locs ls cells slots hP hS hl hc hs => st o2 o3 H locs ls cells slots hP hS (k o1 (ok o1 o2 o3) o3 H locs ls cells slots hP hS hl hc hs)
theorem so_30 (cx : am_cx p s m args c D base xa cA x cc nL n0 own) (hX : ∀ q n, q < 64 → x.1.2.2 q = .inl (7, n) → va_T .int (xa q) n (fun j => .int (Int32.ofInt (x.2.1 q j))) (fun q => base ≤ q) s s.heap) {q : Nat} {i : Int} (hg : am_dc cc pc nx .iaload 1) (hi : (am_pk 0 q i h || am_pk 7 q i h) = true) (hk : am_at p l e R s m args below meth c Q D base xa cA x nL n0 s0 nx L (.inl (h.2.1 q i.toNat) :: S) h) : am_at p l e R s m args below meth c Q D base xa cA x nL n0 s0 pc L (.inl i :: .inr (.inr (some q)) :: S) h := by
  obtain ⟨hx, hb, hml, hown, hts, hK, hbs, hex⟩ := cx
  obtain ⟨hd, rfl⟩ := hg
  rw [Bool.or_eq_true] at hi
  refine am_read (fun o1 o2 o3 => am_oki ?_ (am_okt (am_okt o2))) (fun o2 o3 H locs ls cells slots hP hS kk => ?_) hk
  · rcases hi with hi | hi
    · obtain ⟨n, hn, -, -⟩ := am_pk_spec hi
      exact (o3.2.2.1 q i.toNat).2 (by rw [hn]; show (0 : Nat) ≠ 3; omega)
    · obtain ⟨n, hn, -, -⟩ := am_pk_spec hi
      exact (o3.2.2.1 q i.toNat).2 (by rw [hn]; show (7 : Nat) ≠ 3; omega)
  · have hr : am_r4 i := am_okd o2
    rcases hi with hi | hi
    · obtain ⟨n, hn, i0, i1⟩ := am_pk_spec hi
      obtain ⟨q1, q2⟩ := am_at_arr o3 hex hn (by omega)
      have he := am_ws_at (base := base) (xa := xa) (cA := cA) q1 q2
      rw [hn] at he
      refine va_iald hx hb hK hP (q - 64) 0 he rfl (am_in hr i0 i1) hd ?_
      rw [am_clamp hr]
      exact kk
    · obtain ⟨n, hn, i0, i1⟩ := am_pk_spec hi
      have hq : q < 64 := by
        rcases Nat.lt_or_ge q 64 with g | g
        · exact g
        · have := (o3.2.2.2.1 q 7 n hn).2 g
          omega
      have hn' : x.1.2.2 q = .inl (7, n) := by rw [← (o3.2.1 q hq).1]; exact hn
      have e1 : am_cv (am_ad base xa) (.inr (.inr (some q))) = .ref (xa q) := by
        show Value.ref (am_ad base xa q) = _
        unfold am_ad
        rw [if_pos hq]
      show W p l e R s m args below meth c H locs cells slots Q (F0 m pc ls (.int (Int32.ofInt i) :: am_cv (am_ad base xa) (.inr (.inr (some q))) :: _))
      rw [e1]
      refine va_ti hx hb (hX q n hq hn') hS (am_in hr i0 i1) (v := .int (Int32.ofInt (h.2.1 q i.toNat))) ?_ hd kk
      rw [am_clamp hr, (o3.2.1 q hq).2]
theorem so_31 (cx : am_cx p s m args c D base xa cA x cc nL n0 own) {t q : Nat} {i : Int} (ht : t = 1 ∨ t = 2) (hg : am_dc cc pc nx .baload 1) (hi : am_pk t q i h = true) (hk : am_at p l e R s m args below meth c Q D base xa cA x nL n0 s0 nx L (.inl (h.2.1 q i.toNat) :: S) h) : am_at p l e R s m args below meth c Q D base xa cA x nL n0 s0 pc L (.inl i :: .inr (.inr (some q)) :: S) h := by
  obtain ⟨hx, hb, hml, hown, hts, hK, hbs, hex⟩ := cx
  obtain ⟨hd, rfl⟩ := hg
  obtain ⟨n, hn, i0, i1⟩ := am_pk_spec hi
  refine am_read (fun o1 o2 o3 => am_oki ((o3.2.2.1 q i.toNat).2 (by rw [hn]; show t ≠ 3; omega)) (am_okt (am_okt o2))) (fun o2 o3 H locs ls cells slots hP hS kk => ?_) hk
  have hr : am_r4 i := am_okd o2
  obtain ⟨q1, q2⟩ := am_at_arr o3 hex hn (by omega)
  have he := am_ws_at (base := base) (xa := xa) (cA := cA) q1 q2
  rw [hn] at he
  rcases ht with rfl | rfl
  · refine va_bald hx hb hK hP (q - 64) 1 he rfl (am_in hr i0 i1) hd ?_
    rw [am_clamp hr]
    exact kk
  · refine va_zald hx hb hK hP (q - 64) 2 he rfl (am_in hr i0 i1) hd ?_
    rw [am_clamp hr]
    exact kk
theorem so_32 (cx : am_cx p s m args c D base xa cA x cc nL n0 own) {q : Nat} {i : Int} (hg : am_dc cc pc nx .laload 1) (hi : am_pk 3 q i h = true) (hk : am_at p l e R s m args below meth c Q D base xa cA x nL n0 s0 nx L (.inr (.inl (h.2.1 q i.toNat)) :: S) h) : am_at p l e R s m args below meth c Q D base xa cA x nL n0 s0 pc L (.inl i :: .inr (.inr (some q)) :: S) h := by
  obtain ⟨hx, hb, hml, hown, hts, hK, hbs, hex⟩ := cx
  obtain ⟨hd, rfl⟩ := hg
  obtain ⟨n, hn, i0, i1⟩ := am_pk_spec hi
  refine am_read (fun o1 o2 o3 => am_okj (o3.2.2.1 q i.toNat).1 (am_okt (am_okt o2))) (fun o2 o3 H locs ls cells slots hP hS kk => ?_) hk
  have hr : am_r4 i := am_okd o2
  obtain ⟨q1, q2⟩ := am_at_arr o3 hex hn (by omega)
  have he := am_ws_at (base := base) (xa := xa) (cA := cA) q1 q2
  rw [hn] at he
  refine va_lald hx hb hK hP (q - 64) 3 he rfl (am_in hr i0 i1) hd ?_
  rw [am_clamp hr]
  exact kk
theorem so_33 (cx : am_cx p s m args c D base xa cA x cc nL n0 own) {t q : Nat} {i : Int} (ht : t = 4 ∨ t = 5) (hg : am_dc cc pc nx .aaload 1) (hi : am_pk t q i h = true) (hk : am_at p l e R s m args below meth c Q D base xa cA x nL n0 s0 nx L (.inr (.inr (h.2.2 q i.toNat)) :: S) h) : am_at p l e R s m args below meth c Q D base xa cA x nL n0 s0 pc L (.inl i :: .inr (.inr (some q)) :: S) h := by
  obtain ⟨hx, hb, hml, hown, hts, hK, hbs, hex⟩ := cx
  obtain ⟨hd, rfl⟩ := hg
  obtain ⟨n, hn, i0, i1⟩ := am_pk_spec hi
  refine am_read (fun o1 o2 o3 => am_okr (am_okt (am_okt o2))) (fun o2 o3 H locs ls cells slots hP hS kk => ?_) hk
  have hr : am_r4 i := am_okd o2
  obtain ⟨q1, q2⟩ := am_at_arr o3 hex hn (by omega)
  have he := am_ws_at (base := base) (xa := xa) (cA := cA) q1 q2
  rw [hn] at he
  rcases ht with rfl | rfl
  · refine va_aldq hx hb hK hP (q - 64) 4 he rfl (am_in hr i0 i1) hd ?_
    rw [am_clamp hr]
    exact kk
  · refine va_aldq hx hb hK hP (q - 64) 5 he rfl (am_in hr i0 i1) hd ?_
    rw [am_clamp hr]
    exact kk
/-- a step that writes a cell -/
theorem am_writ {S' : List am_V} {h' : am_H} {q : Nat} (hq : am_okh x h → 64 ≤ q ∧ q < 64 + h.1.1) (hg : h'.1 = h.1) (ho : ∀ r, r ≠ q → h'.1.2.2 r = h.1.2.2 r ∧ h'.2.1 r = h.2.1 r ∧ h'.2.2 r = h.2.2 r) (ok : am_okS S → am_okh x h → am_okS S' ∧ am_okh x h')
    (st : am_okS S → am_okh x h → ∀ (H : Heap) (locs : List Loc) (ls : Array Slot) (cells slots : Nat), va_P D vwCl (am_ws base (am_ad base xa) cA h) H → va_S (fun q => base ≤ q) s.heap H locs →
      (∀ (H1 : Heap) (locs1 : List Loc) (en : va_E), en = am_ce (am_ad base xa) cA (h'.1.2.2 q) (h'.2.1 q) (h'.2.2 q) → va_P D vwCl ((am_ws base (am_ad base xa) cA h).set (q - 64) (am_ad base xa q, en)) H1 → va_S (fun q => base ≤ q) s.heap H1 locs1 → W p l e R s m args below meth c H1 locs1 cells slots Q (F0 m nx ls (S'.map (am_cv (am_ad base xa))))) → W p l e R s m args below meth c H locs cells slots Q (F0 m pc ls (S.map (am_cv (am_ad base xa)))))
    (k : am_at p l e R s m args below meth c Q D base xa cA x nL n0 s0 nx L S' h') : am_at p l e R s m args below meth c Q D base xa cA x nL n0 s0 pc L S h := by
  intro o1 o2 o3 H locs ls cells slots hP hS hl hc hs
  obtain ⟨q1, q2⟩ := hq o3
  obtain ⟨k1, k2⟩ := ok o2 o3
  refine st o2 o3 H locs ls cells slots hP hS (fun H1 locs1 en hen hP1 hS1 => ?_)
  rw [am_ws_set q1 q2 (by rw [hg]) ho hen] at hP1
  exact k o1 k1 k2 H1 locs1 ls cells slots hP1 hS1 hl (by rw [hg]; exact hc) (by rw [hg]; exact hs)
theorem am_upd4 {f : Nat → Int} {k : Nat} {v : Int} : upd (fun j => Int32.ofInt (f j)) k (Int32.ofInt v) = fun j => Int32.ofInt (am_u1 f k v j) := by
  funext j
  unfold upd am_u1
  split <;> rfl
theorem am_upd8 {f : Nat → Int} {k : Nat} {v : Int} : vp_updL (fun j => Int64.ofInt (f j)) k (Int64.ofInt v) = fun j => Int64.ofInt (am_u1 f k v j) := by
  funext j
  unfold vp_updL am_u1
  split <;> rfl
theorem am_updq {ad : Nat → Nat} {f : Nat → Option Nat} {k : Nat} {v : Option Nat} : va_up (fun j => (f j).map ad) k (v.map ad) = fun j => (am_u1 f k v j).map ad := by
  funext j
  unfold va_up am_u1
  split <;> rfl
theorem am_hI_at (h : am_H) (q k : Nat) (v : Int) : (am_hI h q k v).2.1 q = am_u1 (h.2.1 q) k v := am_u1_self
theorem am_hP_at (h : am_H) (q k : Nat) (v : Option Nat) : (am_hP h q k v).2.2 q = am_u1 (h.2.2 q) k v := am_u1_self
theorem so_34 (cx : am_cx p s m args c D base xa cA x cc nL n0 own) {q : Nat} {i v : Int} (hg : am_dc cc pc nx .iastore 1) (hi : am_pk 0 q i h = true) (hk : am_at p l e R s m args below meth c Q D base xa cA x nL n0 s0 nx L S (am_hI h q i.toNat v)) : am_at p l e R s m args below meth c Q D base xa cA x nL n0 s0 pc L (.inl v :: .inl i :: .inr (.inr (some q)) :: S) h := by
  obtain ⟨hx, hb, hml, hown, hts, hK, hbs, hex⟩ := cx
  obtain ⟨hd, rfl⟩ := hg
  obtain ⟨n, hn, i0, i1⟩ := am_pk_spec hi
  have hin := fun o3 => am_at_arr (x := x) o3 hex hn (by omega)
  refine am_writ (q := q) (h' := am_hI h q i.toNat v) hin rfl am_hI_other (fun o2 o3 => ⟨am_okt (am_okt (am_okt o2)), am_okh_I o3 (hin o3).1 ⟨am_r4_8 (am_okd o2), fun _ => am_okd o2⟩⟩) (fun o2 o3 H locs ls cells slots hP hS kk => ?_) hk
  have hr : am_r4 i := am_okd (am_okt o2)
  have he := am_ws_at (base := base) (xa := xa) (cA := cA) (hin o3).1 (hin o3).2
  rw [hn] at he
  refine va_iast hx hb hK hP am_ws_D hS (q - 64) 0 he rfl (am_in hr i0 i1) hd (fun H1 locs1 hP1 hD1 hS1 => kk H1 locs1 _ ?_ hP1 hS1)
  rw [am_hI_at]
  show _ = am_ce (am_ad base xa) cA (h.1.2.2 q) _ _
  rw [hn]
  show _ = Sum.inl (cA 0, n, Sum.inl (fun j => Int32.ofInt (am_u1 (h.2.1 q) i.toNat v j)))
  rw [am_clamp hr, am_upd4]
theorem am_nar_by (v : Int) : vp_nar .byte (Int32.ofInt v) = Int32.ofInt (am_by v) := by
  rw [vp_nar_byte]
  unfold am_by
  rw [am_of_toInt]
theorem am_nar_z {v : Int} (h : v = 0 ∨ v = 1) : vp_nar .boolean (Int32.ofInt v) = Int32.ofInt v := by
  rcases h with rfl | rfl <;> decide +kernel
theorem so_35 (cx : am_cx p s m args c D base xa cA x cc nL n0 own) {t q : Nat} {i v : Int} (ht : t = 1 ∨ t = 2) (hg : am_dc cc pc nx .bastore 1) (hi : (am_pk t q i h && (decide (t = 1) || decide (v = 0 ∨ v = 1))) = true) (hk : am_at p l e R s m args below meth c Q D base xa cA x nL n0 s0 nx L S (am_hI h q i.toNat (if t = 1 then am_by v else v))) : am_at p l e R s m args below meth c Q D base xa cA x nL n0 s0 pc L (.inl v :: .inl i :: .inr (.inr (some q)) :: S) h := by
  obtain ⟨hx, hb, hml, hown, hts, hK, hbs, hex⟩ := cx
  obtain ⟨hd, rfl⟩ := hg
  rw [Bool.and_eq_true, Bool.or_eq_true] at hi
  obtain ⟨hi, hz⟩ := hi
  obtain ⟨n, hn, i0, i1⟩ := am_pk_spec hi
  have hin := fun o3 => am_at_arr (x := x) o3 hex hn (by omega)
  have hrv : am_okS (.inl v :: .inl i :: .inr (.inr (some q)) :: S) → am_r4 (if t = 1 then am_by v else v) := fun o2 => by
    split
    · exact am_r4_to _
    · exact am_okd o2
  refine am_writ (q := q) (h' := am_hI h q i.toNat (if t = 1 then am_by v else v)) hin rfl am_hI_other (fun o2 o3 => ⟨am_okt (am_okt (am_okt o2)), am_okh_I o3 (hin o3).1 ⟨am_r4_8 (hrv o2), fun _ => hrv o2⟩⟩) (fun o2 o3 H locs ls cells slots hP hS kk => ?_) hk
  have hr : am_r4 i := am_okd (am_okt o2)
  have he := am_ws_at (base := base) (xa := xa) (cA := cA) (hin o3).1 (hin o3).2
  rw [hn] at he
  rcases ht with rfl | rfl
  · refine va_bast hx hb hK hP am_ws_D hS (q - 64) 1 he rfl (am_in hr i0 i1) hd (fun H1 locs1 hP1 hD1 hS1 => kk H1 locs1 _ ?_ hP1 hS1)
    rw [am_hI_at]
    show _ = am_ce (am_ad base xa) cA (h.1.2.2 q) _ _
    rw [hn]
    show _ = Sum.inl (cA 1, n, Sum.inl (fun j => Int32.ofInt (am_u1 (h.2.1 q) i.toNat (am_by v) j)))
    rw [am_clamp hr, am_nar_by, am_upd4]
  · have hz : v = 0 ∨ v = 1 := by
      rcases hz with z | z
      · have := of_decide_eq_true z
        omega
      · exact of_decide_eq_true z
    refine va_zast hx hb hK hP am_ws_D hS (q - 64) 2 he rfl (am_in hr i0 i1) hd (fun H1 locs1 hP1 hD1 hS1 => kk H1 locs1 _ ?_ hP1 hS1)
    rw [am_hI_at]
    show _ = am_ce (am_ad base xa) cA (h.1.2.2 q) _ _
    rw [hn]
    show _ = Sum.inl (cA 2, n, Sum.inl (fun j => Int32.ofInt (am_u1 (h.2.1 q) i.toNat v j)))
    rw [am_clamp hr, am_nar_z hz, am_upd4]
theorem so_36 (cx : am_cx p s m args c D base xa cA x cc nL n0 own) {q : Nat} {i v : Int} (hg : am_dc cc pc nx .lastore 1) (hi : am_pk 3 q i h = true) (hk : am_at p l e R s m args below meth c Q D base xa cA x nL n0 s0 nx L S (am_hI h q i.toNat v)) : am_at p l e R s m args below meth c Q D base xa cA x nL n0 s0 pc L (.inr (.inl v) :: .inl i :: .inr (.inr (some q)) :: S) h := by
  obtain ⟨hx, hb, hml, hown, hts, hK, hbs, hex⟩ := cx
  obtain ⟨hd, rfl⟩ := hg
  obtain ⟨n, hn, i0, i1⟩ := am_pk_spec hi
  have hin := fun o3 => am_at_arr (x := x) o3 hex hn (by omega)
  refine am_writ (q := q) (h' := am_hI h q i.toNat v) hin rfl am_hI_other (fun o2 o3 => ⟨am_okt (am_okt (am_okt o2)), am_okh_I o3 (hin o3).1 ⟨am_okd o2, fun z => by rw [hn] at z; exact absurd rfl z⟩⟩) (fun o2 o3 H locs ls cells slots hP hS kk => ?_) hk
  have hr : am_r4 i := am_okd (am_okt o2)
  have he := am_ws_at (base := base) (xa := xa) (cA := cA) (hin o3).1 (hin o3).2
  rw [hn] at he
  refine va_last hx hb hK hP am_ws_D hS (q - 64) 3 he rfl (am_in hr i0 i1) hd (fun H1 locs1 hP1 hD1 hS1 => kk H1 locs1 _ ?_ hP1 hS1)
  rw [am_hI_at]
  show _ = am_ce (am_ad base xa) cA (h.1.2.2 q) _ _
  rw [hn]
  show _ = Sum.inl (cA 3, n, Sum.inr (Sum.inl (fun j => Int64.ofInt (am_u1 (h.2.1 q) i.toNat v j))))
  rw [am_clamp hr, am_upd8]
end AMC
