/-! ===== fields, making cells, lengths, the library's own ===== -/
theorem am_ofNat (n : Nat) : Int32.ofNat n = Int32.ofInt (n : Int) := (Int32.ofInt_eq_ofNat).symm
theorem am_okh_mk {x h : am_H} {sh : (Nat × Nat) ⊕ Nat} {n : Nat} (ok : am_okh x h) (h1 : ∀ t k, sh = .inl (t, k) → k ≤ 100000 ∧ t ≤ 5) (h2 : ∀ c, sh = .inr c → c < 13) : am_okh x (am_mk h sh n) := by
  obtain ⟨o1, o2, o3, o4, o5⟩ := ok
  refine ⟨fun q hq => ?_, fun q hq => ?_, fun q j => ?_, fun q t k e => ?_, fun q k q1 q2 e => ?_⟩
  · have hq : 64 + (h.1.1 + 1) ≤ q := hq
    show am_u1 h.1.2.2 (64 + h.1.1) sh q = _
    rw [am_u1_ne (by omega)]
    exact o1 q (by omega)
  · constructor
    · show am_u1 h.1.2.2 (64 + h.1.1) sh q = _
      rw [am_u1_ne (by omega)]
      exact (o2 q hq).1
    · show am_u1 h.2.1 (64 + h.1.1) _ q = _
      rw [am_u1_ne (by omega)]
      exact (o2 q hq).2
  · by_cases hq : q = 64 + h.1.1
    · subst hq
      show am_r8 (am_u1 h.2.1 (64 + h.1.1) _ (64 + h.1.1) j) ∧ (_ → am_r4 (am_u1 h.2.1 (64 + h.1.1) _ (64 + h.1.1) j))
      rw [am_u1_self]
      exact ⟨⟨by omega, by omega⟩, fun _ => ⟨by omega, by omega⟩⟩
    · show am_r8 (am_u1 h.2.1 (64 + h.1.1) _ q j) ∧ (am_k4 (am_u1 h.1.2.2 (64 + h.1.1) sh q) j → am_r4 (am_u1 h.2.1 (64 + h.1.1) _ q j))
      rw [am_u1_ne hq, am_u1_ne hq]
      exact o3 q j
  · have e : am_u1 h.1.2.2 (64 + h.1.1) sh q = _ := e
    by_cases hq : q = 64 + h.1.1
    · subst hq
      rw [am_u1_self] at e
      exact ⟨(h1 t k e).1, fun _ => (h1 t k e).2⟩
    · rw [am_u1_ne hq] at e
      exact o4 q t k e
  · have e : am_u1 h.1.2.2 (64 + h.1.1) sh q = _ := e
    have q2 : q < 64 + (h.1.1 + 1) := q2
    by_cases hq : q = 64 + h.1.1
    · subst hq
      rw [am_u1_self] at e
      exact h2 k e
    · rw [am_u1_ne hq] at e
      exact o5 q k q1 (by omega) e
section AMD
variable {p : Program} {l : Launch} {e : Env} {R : Room} {s : State} {m : MethodId} {args : Array Value} {below : List Frame} {meth : Method} {c : Code} {Q : State → Prop} {D : va_G} {base : Nat} {xa : Nat → Nat} {cA : Nat → ClassId} {x : am_H} {nL n0 s0 : Nat} {cc : ByteArray} {own : String}
variable {pc nx : Nat} {L : am_L} {S : List am_V} {h : am_H}
theorem am_ad_x {q : Nat} (hq : q < 64) : am_ad base xa q = xa q := if_pos hq
theorem so_3s (cx : am_cx p s m args c D base xa cA x cc nL n0 own) {k q : Nat} {tx : String} (hq : q < 64) (hR : vk_R own k tx (xa q) s) (hg : am_dc cc pc nx (.ldc k) 2) (hk : am_at p l e R s m args below meth c Q D base xa cA x nL n0 s0 nx L (.inr (.inr (some q)) :: S) h) : am_at p l e R s m args below meth c Q D base xa cA x nL n0 s0 pc L S h := by
  obtain ⟨hx, hb, hml, hown, hts, hK, hbs, hex⟩ := cx
  obtain ⟨hd, rfl⟩ := hg
  refine am_pureS (fun o => am_okr o) (fun o H locs ls cells slots kk => va_ldcS hx hb hown hR hd ?_) hk
  rw [← am_ad_x (base := base) (xa := xa) hq]
  exact kk
theorem so_3g (cx : am_cx p s m args c D base xa cA x cc nL n0 own) {k q : Nat} {nm : String} (hq : q < 64) (hZ : va_Z "CloudCalls" nm "[I" (.ref (xa q)) (fun q => base ≤ q) s s.heap) (hg : am_dc cc pc nx (.getstatic k) 3) (hl : Cond.fieldLink own k "CloudCalls" nm "[I" ∈ am_T ∨ (Cond.fieldLinkNest own k "CloudCalls" nm "[I" "CloudCalls").before args s = true) (hk : am_at p l e R s m args below meth c Q D base xa cA x nL n0 s0 nx L (.inr (.inr (some q)) :: S) h) : am_at p l e R s m args below meth c Q D base xa cA x nL n0 s0 pc L S h := by
  obtain ⟨hx, hb, hml, hown, hts, hK, hbs, hex⟩ := cx
  obtain ⟨hd, rfl⟩ := hg
  refine am_read (fun _ o _ => am_okr o) (fun o2 o3 H locs ls cells slots hP hS kk => ?_) hk
  have kk : W p l e R s m args below meth c H locs cells slots Q (F0 m (pc + 3) ls (.ref (xa q) :: S.map (am_cv (am_ad base xa)))) := by
    rw [← am_ad_x (base := base) (xa := xa) hq]
    exact kk
  rcases hl with hl | hl
  · exact va_gets hx hb hZ hS hown (hts _ hl) (fun _ z => z) hd kk
  · exact va_getsN hx hb hZ hS hown hl (fun _ z => z) hd kk
theorem so_37 (cx : am_cx p s m args c D base xa cA x cc nL n0 own) {t ci q : Nat} {i : Int} {v : Option Nat} (ht : (t = 4 ∧ ci = 9) ∨ (t = 5 ∧ ci = 1)) (hg : am_dc cc pc nx .aastore 1) (hi : (am_pk t q i h && am_nb v ci h) = true) (hk : am_at p l e R s m args below meth c Q D base xa cA x nL n0 s0 nx L S (am_hP h q i.toNat v)) : am_at p l e R s m args below meth c Q D base xa cA x nL n0 s0 pc L (.inr (.inr v) :: .inl i :: .inr (.inr (some q)) :: S) h := by
  obtain ⟨hx, hb, hml, hown, hts, hK, hbs, hex⟩ := cx
  obtain ⟨hd, rfl⟩ := hg
  rw [Bool.and_eq_true] at hi
  obtain ⟨hi, hv⟩ := hi
  obtain ⟨n, hn, i0, i1⟩ := am_pk_spec hi
  have hin := fun o3 => am_at_arr (x := x) o3 hex hn (by omega)
  refine am_writ (q := q) (h' := am_hP h q i.toNat v) hin rfl am_hP_other (fun o2 o3 => ⟨am_okt (am_okt (am_okt o2)), o3⟩) (fun o2 o3 H locs ls cells slots hP hS kk => ?_) hk
  have hr : am_r4 i := am_okd (am_okt o2)
  have he := am_ws_at (base := base) (xa := xa) (cA := cA) (hin o3).1 (hin o3).2
  rw [hn] at he
  have fin : am_ce (am_ad base xa) cA ((am_hP h q i.toNat v).1.2.2 q) ((am_hP h q i.toNat v).2.1 q) ((am_hP h q i.toNat v).2.2 q) = Sum.inl (cA t, n, Sum.inr (Sum.inr (Sum.inr (Sum.inr (va_up (fun j => (h.2.2 q j).map (am_ad base xa)) (Int32.ofInt i).toNatClampNeg (v.map (am_ad base xa))))))) := by
    rw [am_hP_at]
    show am_ce (am_ad base xa) cA (h.1.2.2 q) _ _ = _
    rw [hn, am_clamp hr, am_updq]
    rcases ht with ⟨rfl, -⟩ | ⟨rfl, -⟩ <;> rfl
  match v, hv with
  | none, _ =>
    rcases ht with ⟨rfl, rfl⟩ | ⟨rfl, rfl⟩
    · exact va_astqN hx hb hK hP am_ws_D hS (q - 64) 4 he rfl (am_in hr i0 i1) hd (fun H1 locs1 hP1 hD1 hS1 => kk H1 locs1 _ fin.symm hP1 hS1)
    · exact va_astqN hx hb hK hP am_ws_D hS (q - 64) 5 he rfl (am_in hr i0 i1) hd (fun H1 locs1 hP1 hD1 hS1 => kk H1 locs1 _ fin.symm hP1 hS1)
  | some y, hv =>
    have hy := am_ob_spec hv
    obtain ⟨y1, y2⟩ := am_at_obj o3 hex hy (by omega)
    have hey := am_ws_at (base := base) (xa := xa) (cA := cA) y1 y2
    rw [hy] at hey
    rcases ht with ⟨rfl, rfl⟩ | ⟨rfl, rfl⟩
    · exact va_astq (r := (RX9, TX9, 8)) hx hb hK hP am_ws_D hS (q - 64) 4 (y - 64) 9 he rfl hey rfl (am_in hr i0 i1) hd (fun H1 locs1 hP1 hD1 hS1 => kk H1 locs1 _ fin.symm hP1 hS1)
    · exact va_astq (r := (RX1, TX1, 18)) hx hb hK hP am_ws_D hS (q - 64) 5 (y - 64) 1 he rfl hey rfl (am_in hr i0 i1) hd (fun H1 locs1 hP1 hD1 hS1 => kk H1 locs1 _ fin.symm hP1 hS1)
theorem so_38 (cx : am_cx p s m args c D base xa cA x cc nL n0 own) (hX : ∀ q n, q < 64 → x.1.2.2 q = .inl (7, n) → va_T .int (xa q) n (fun j => .int (Int32.ofInt (x.2.1 q j))) (fun q => base ≤ q) s s.heap) {q t n : Nat} (hg : am_dc cc pc nx .arraylength 1) (hn : h.1.2.2 q = .inl (t, n)) (ht : t ≠ 8) (hk : am_at p l e R s m args below meth c Q D base xa cA x nL n0 s0 nx L (.inl (n : Int) :: S) h) : am_at p l e R s m args below meth c Q D base xa cA x nL n0 s0 pc L (.inr (.inr (some q)) :: S) h := by
  obtain ⟨hx, hb, hml, hown, hts, hK, hbs, hex⟩ := cx
  obtain ⟨hd, rfl⟩ := hg
  refine am_read (fun o1 o2 o3 => am_oki ?_ (am_okt o2)) (fun o2 o3 H locs ls cells slots hP hS kk => ?_) hk
  · have := (o3.2.2.2.1 q t n hn).1
    exact ⟨by omega, by omega⟩
  · by_cases hq : q < 64
    · have hn' : x.1.2.2 q = .inl (t, n) := by rw [← (o3.2.1 q hq).1]; exact hn
      have h7 : t = 7 := by
        rcases hex q hq with z | ⟨k, z | z⟩
        · rw [z] at hn'; cases hn'
        · rw [z] at hn'; cases hn'; rfl
        · rw [z] at hn'; cases hn'; exact absurd rfl ht
      subst h7
      have e1 : am_cv (am_ad base xa) (.inr (.inr (some q))) = .ref (xa q) := by
        show Value.ref (am_ad base xa q) = _
        unfold am_ad
        rw [if_pos hq]
      show W p l e R s m args below meth c H locs cells slots Q (F0 m pc ls (am_cv (am_ad base xa) (.inr (.inr (some q))) :: _))
      rw [e1]
      exact va_tlen hx hb (hX q n hq hn') hS (am_ofNat n) hd kk
    · have ht5 := (o3.2.2.2.1 q t n hn).2 (by omega)
      obtain ⟨q1, q2⟩ := am_at_arr o3 hex hn (by omega)
      have he := am_ws_at (base := base) (xa := xa) (cA := cA) q1 q2
      rw [hn] at he
      have htt : ∃ ty, (am_tys cA)[t]? = some (cA t, ty) := by
        match t, ht5 with
        | 0, _ => exact ⟨_, rfl⟩
        | 1, _ => exact ⟨_, rfl⟩
        | 2, _ => exact ⟨_, rfl⟩
        | 3, _ => exact ⟨_, rfl⟩
        | 4, _ => exact ⟨_, rfl⟩
        | 5, _ => exact ⟨_, rfl⟩
      obtain ⟨ty, hty⟩ := htt
      exact va_alen hx hb hK hP (q - 64) t he hty (am_ofNat n) hd kk
/-- a new cell at the heap's end -/
theorem am_make {S S' : List am_V} {sh : (Nat × Nat) ⊕ Nat} {n : Nat} (hs0 : s.heap.size = base + n0) (ok : am_okS S → am_okh x h → am_okS S' ∧ am_okh x (am_mk h sh n))
    (st : am_okS S → am_okh x h → ∀ (H : Heap) (locs : List Loc) (ls : Array Slot) (cells slots : Nat), H.size = base + h.1.1 → cells + n0 = h.1.1 → slots + s0 = h.1.2.1 →
      (∀ H1 : Heap, va_at D vwCl (base + h.1.1, am_ce (am_ad base xa) cA sh (fun _ => 0) (fun _ => none)) H1 → H1.size = base + h.1.1 + 1 → (∀ q, q < base + h.1.1 → H1[q]? = H[q]?) → W p l e R s m args below meth c H1 locs (cells + 1) (slots + n) Q (F0 m nx ls (S'.map (am_cv (am_ad base xa))))) → W p l e R s m args below meth c H locs cells slots Q (F0 m pc ls (S.map (am_cv (am_ad base xa)))))
    (k : am_at p l e R s m args below meth c Q D base xa cA x nL n0 s0 nx L S' (am_mk h sh n)) : am_at p l e R s m args below meth c Q D base xa cA x nL n0 s0 pc L S h := by
  intro o1 o2 o3 H locs ls cells slots hP hS hl hc hs T hT X
  have hz := am_size X hT hP hS hs0 hc
  obtain ⟨k1, k2⟩ := ok o2 o3
  refine st o2 o3 H locs ls cells slots hz hc hs (fun H1 ha z1 oq => ?_) T hT X
  refine k o1 k1 k2 H1 locs ls (cells + 1) (slots + n) ?_ ⟨by have := hS.1; omega, fun q h1 h2 => ?_, hS.2.2⟩ hl (by show cells + 1 + n0 = h.1.1 + 1; omega) (by show slots + n + s0 = h.1.2.1 + n; omega)
  · rw [am_ws_mk rfl]
    refine va_P.app (hP.kept (fun k q hq => oq q.1 ?_)) (fun k q hq => ?_)
    · have := (hP k q hq).lt
      omega
    · have hz : k < 1 := (List.getElem?_eq_some_iff.mp hq).1
      rw [show k = 0 by omega] at hq
      cases hq
      exact ha
  · have := hS.1
    rw [oq q (by omega)]
    exact hS.2.1 q h1 h2
theorem am_nn {n : Int} (h0 : 0 ≤ n) (hr : am_r4 n) : ¬ Int32.ofInt n < 0 := fun z => by
  have := (am_lt4 hr (b := 0) ⟨by omega, by omega⟩).mp z
  omega
theorem so_39p (cx : am_cx p s m args c D base xa cA x cc nL n0 own) {t : Nat} {n : Int} {at' : ArrayType} (ht : (t = 0 ∧ at' = .int) ∨ (t = 1 ∧ at' = .byte) ∨ (t = 2 ∧ at' = .boolean) ∨ (t = 3 ∧ at' = .long)) (hg : am_dc cc pc nx (.newarray at') 2) (hw : Cond.arrayClass (newarray.typeOf at') ∈ am_T) (h0 : 0 ≤ n ∧ n ≤ 100000) (hc1 : h.1.1 + 1 ≤ n0 + R.cells) (hs1 : h.1.2.1 + n.toNat ≤ s0 + R.slots) (hk : am_at p l e R s m args below meth c Q D base xa cA x nL n0 s0 nx L (.inr (.inr (some (64 + h.1.1))) :: S) (am_mk h (.inl (t, n.toNat)) n.toNat)) : am_at p l e R s m args below meth c Q D base xa cA x nL n0 s0 pc L (.inl n :: S) h := by
  obtain ⟨hx, hb, hml, hown, hts, hK, hbs, hex⟩ := cx
  obtain ⟨hd, rfl⟩ := hg
  refine am_make hbs (fun o2 o3 => ⟨am_okr (am_okt o2), am_okh_mk o3 (fun t' k e => by cases e; omega) (fun c e => by cases e)⟩) (fun o2 o3 H locs ls cells slots hz hc hs kk => ?_) hk
  have hr : am_r4 n := am_okd o2
  have e0 : am_cv (am_ad base xa) (.inr (.inr (some (64 + h.1.1)))) = .ref (base + h.1.1) := by
    show Value.ref (am_ad base xa (64 + h.1.1)) = _
    unfold am_ad
    rw [if_neg (by omega), show 64 + h.1.1 - 64 = h.1.1 by omega]
  refine va_newaK hx hb (atype := at') (hts _ hw) rfl hd rfl (am_nn h0.1 hr) (am_clamp hr) ?_ (by omega) (by omega) hz (fun H1 cA' e1 z1 oq hA hf => ?_)
  · rcases ht with ⟨-, rfl⟩ | ⟨-, rfl⟩ | ⟨-, rfl⟩ | ⟨-, rfl⟩ <;> simp only [newarray.typeOf, componentBytes] <;> omega
  · have key : ∀ (j : Nat) (ty : FieldType), (am_tys cA)[j]? = some (cA j, ty) → ty = newarray.typeOf at' → (ty = .int ∨ ty = .byte ∨ ty = .boolean ∨ ty = .long) → cA' = cA j := by
      intro j ty hj e2 hp
      have := (hK.2 j _ hj).2
      rw [← e2] at hf
      rcases hp with rfl | rfl | rfl | rfl <;> exact Option.some.inj (hf.symm.trans this)
    have fin := kk H1
    rw [List.map_cons, e0] at fin
    refine fin ?_ z1 oq
    rcases ht with ⟨rfl, rfl⟩ | ⟨rfl, rfl⟩ | ⟨rfl, rfl⟩ | ⟨rfl, rfl⟩
    · rw [key 0 .int rfl rfl (by simp)] at e1
      exact e1
    · rw [key 1 .byte rfl rfl (by simp)] at e1
      exact e1
    · rw [key 2 .boolean rfl rfl (by simp)] at e1
      exact e1
    · rw [key 3 .long rfl rfl (by simp)] at e1
      exact e1
theorem so_39r (cx : am_cx p s m args c D base xa cA x cc nL n0 own) {t k : Nat} {n : Int} {C : String} (ht : (t = 4 ∧ C = RX9) ∨ (t = 5 ∧ C = RX1)) (hg : am_dc cc pc nx (.anewarray k) 3) (hcl : Cond.classLink own k C ∈ am_T) (hov : va_AO C s) (h0 : 0 ≤ n ∧ n ≤ 100000) (hc1 : h.1.1 + 1 ≤ n0 + R.cells) (hs1 : h.1.2.1 + n.toNat ≤ s0 + R.slots) (hk : am_at p l e R s m args below meth c Q D base xa cA x nL n0 s0 nx L (.inr (.inr (some (64 + h.1.1))) :: S) (am_mk h (.inl (t, n.toNat)) n.toNat)) : am_at p l e R s m args below meth c Q D base xa cA x nL n0 s0 pc L (.inl n :: S) h := by
  obtain ⟨hx, hb, hml, hown, hts, hK, hbs, hex⟩ := cx
  obtain ⟨hd, rfl⟩ := hg
  refine am_make hbs (fun o2 o3 => ⟨am_okr (am_okt o2), am_okh_mk o3 (fun t' k e => by cases e; omega) (fun c e => by cases e)⟩) (fun o2 o3 H locs ls cells slots hz hc hs kk => ?_) hk
  have hr : am_r4 n := am_okd o2
  have e0 : am_cv (am_ad base xa) (.inr (.inr (some (64 + h.1.1)))) = .ref (base + h.1.1) := by
    show Value.ref (am_ad base xa (64 + h.1.1)) = _
    unfold am_ad
    rw [if_neg (by omega), show 64 + h.1.1 - 64 = h.1.1 by omega]
  refine W.anew hx hb hown (hts _ hcl) (va_AO.use hov) rfl hd rfl (am_nn h0.1 hr) (by rw [am_clamp hr]; omega) (by omega) (by rw [am_clamp hr]; omega) (fun cA' kA comp f1 f2 f3 f4 => ?_)
  have e2 : cA' = cA t := by
    rcases ht with ⟨rfl, rfl⟩ | ⟨rfl, rfl⟩
    · obtain ⟨_, _, -, -, -, z⟩ := (hK.2 4 _ rfl).2
      exact Option.some.inj (f1.symm.trans z)
    · obtain ⟨_, _, -, -, -, z⟩ := (hK.2 5 _ rfl).2
      exact Option.some.inj (f1.symm.trans z)
  rw [am_clamp hr]
  have fin := kk (H.push { cls := cA', slots := Array.replicate n.toNat .null, vm := .none })
  rw [List.map_cons, e0, ← hz] at fin
  refine fin ?_ (by rw [Array.size_push]) (fun q hq => by rw [Array.getElem?_push, if_neg (by omega)])
  rcases ht with ⟨rfl, -⟩ | ⟨rfl, -⟩
  · show _ = some (vp_cell (cA 4) _)
    rw [Array.getElem?_push_size, e2, arrV_new]
    rfl
  · show _ = some (vp_cell (cA 5) _)
    rw [Array.getElem?_push_size, e2, arrV_new]
    rfl
theorem am_dv : ∀ ci, ci < 13 → ∀ k, k < am_nf ci → ∀ ad, defaultValue (am_tN ci k) = am_fv ad ((am_fk ci).getD k 0) 0 none := by
  intro ci h k hk ad
  have key : ∀ ci, ci < 13 → ∀ k, k < am_nf ci → (defaultValue (am_tN ci k) = .int 0 ∧ (am_fk ci).getD k 0 = 0) ∨ (defaultValue (am_tN ci k) = .long 0 ∧ (am_fk ci).getD k 0 = 1) ∨ (defaultValue (am_tN ci k) = .null ∧ (am_fk ci).getD k 0 = 2) := by decide +kernel
  rcases key ci h k hk with ⟨a, b⟩ | ⟨a, b⟩ | ⟨a, b⟩ <;> rw [a, b] <;> rfl
theorem so_44 (cx : am_cx p s m args c D base xa cA x cc nL n0 own) {ci k : Nat} (hci : ci < 13) (hg : am_dc cc pc nx (.new k) 3) (hcl : Cond.classLink own k (am_RN ci) ∈ am_T) (hin : Cond.instantiable (am_RN ci) (am_nf ci) ∈ am_T) (hini : Cond.initialized (am_RN ci) ∈ am_T) (hc1 : h.1.1 + 1 ≤ n0 + R.cells) (hs1 : h.1.2.1 + am_nf ci ≤ s0 + R.slots) (hk : am_at p l e R s m args below meth c Q D base xa cA x nL n0 s0 nx L (.inr (.inr (some (64 + h.1.1))) :: S) (am_mk h (.inr ci) (am_nf ci))) : am_at p l e R s m args below meth c Q D base xa cA x nL n0 s0 pc L S h := by
  obtain ⟨hx, hb, hml, hown, hts, hK, hbs, hex⟩ := cx
  obtain ⟨hd, rfl⟩ := hg
  refine am_make hbs (fun o2 o3 => ⟨am_okr o2, am_okh_mk o3 (fun t' k e => by cases e) (fun c e => by cases e; exact hci)⟩) (fun o2 o3 H locs ls cells slots hz hc hs kk => ?_) hk
  have e0 : am_cv (am_ad base xa) (.inr (.inr (some (64 + h.1.1)))) = .ref (base + h.1.1) := by
    show Value.ref (am_ad base xa (64 + h.1.1)) = _
    unfold am_ad
    rw [if_neg (by omega), show 64 + h.1.1 - 64 = h.1.1 by omega]
  have hKn := hK.1 ci _ (am_vw ci hci)
  refine W.newcK hx hb hown (hts _ hcl) (hts _ hin) (hts _ hini) rfl hd (by omega) (by omega) hKn.2.1 hz (fun H1 kC hkC e1 z1 o1 => ?_)
  have fin := kk H1
  rw [List.map_cons, e0] at fin
  refine fin ⟨_, am_vw ci hci, (u_born (am_tN ci) hts (am_cw ci hci) hKn hkC e1 (am_tk ci hci)).to (fun j hj => ?_)⟩ z1 o1
  rw [am_dv ci hci j hj (am_ad base xa)]
  show _ = (List.map _ _).getD _ _
  have hj : j < am_nf ci := hj
  simp [hj]
theorem am_gf_fv {ad : Nat → Nat} {kd : Nat} {y : Int} {g : Option Nat} : am_cv ad (am_gf kd y g) = am_fv ad kd y g := by
  unfold am_gf am_fv
  split
  · rfl
  · rfl
  · rename_i g1 g2
    split
    · exact absurd rfl g1
    · exact absurd rfl g2
    · rfl
theorem so_41 (cx : am_cx p s m args c D base xa cA x cc nL n0 own) {ci k kd j q : Nat} (hci : ci < 13) (hkn : k < am_nf ci) (hg : am_dc cc pc nx (.getfield j) 3) (hl : Cond.fieldLink own j (am_TN ci k).1 (am_TN ci k).2.1 (am_TN ci k).2.2.1 ∈ am_T) (hkd : kd = (am_fk ci).getD k 0) (ho : am_ob ci q h = true) (hk : am_at p l e R s m args below meth c Q D base xa cA x nL n0 s0 nx L (am_gf kd (h.2.1 q k) (h.2.2 q k) :: S) h) : am_at p l e R s m args below meth c Q D base xa cA x nL n0 s0 pc L (.inr (.inr (some q)) :: S) h := by
  obtain ⟨hx, hb, hml, hown, hts, hK, hbs, hex⟩ := cx
  obtain ⟨hd, rfl⟩ := hg
  have hob := am_ob_spec ho
  refine am_read (fun o1 o2 o3 => am_okc ?_ (am_okt o2)) (fun o2 o3 H locs ls cells slots hP hS kk => ?_) hk
  · have h3 := o3.2.2.1 q k
    clear hk
    by_cases g1 : kd = 1
    · subst g1
      exact h3.1
    · by_cases g2 : kd = 2
      · subst g2
        trivial
      · have e1 : am_gf kd (h.2.1 q k) (h.2.2 q k) = .inl (h.2.1 q k) := by
          unfold am_gf
          split
          · exact absurd rfl g1
          · exact absurd rfl g2
          · rfl
        rw [e1]
        refine h3.2 ?_
        rw [hob]
        show (am_fk ci).getD k 0 ≠ 1
        rw [← hkd]
        exact g1
  · obtain ⟨q1, q2⟩ := am_at_obj o3 hex hob (by omega)
    have he := am_ws_at (base := base) (xa := xa) (cA := cA) q1 q2
    rw [hob] at he
    refine va_get (C := am_RN ci) (T := am_TN ci) (N := am_nf ci) (v := am_fv (am_ad base xa) ((am_fk ci).getD k 0) (h.2.1 q k) (h.2.2 q k)) hx hb hts (am_cw ci hci) hown hK hP (q - 64) he (am_vw ci hci) k hkn (hts _ hl) (fun _ z => z) ?_ hd ?_
    · simp [hkn]
    · rw [← hkd]
      rw [List.map_cons, am_gf_fv] at kk
      exact kk
/-- a putfield, of a final field or not -/
theorem am_pf (cx : am_cx p s m args c D base xa cA x cc nL n0 own) {ci k j q : Nat} {v : am_V} {h' : am_H} (hci : ci < 13) (hkn : k < am_nf ci) (hg : am_dc cc pc nx (.putfield j) 3) (hl : Cond.fieldLink own j (am_TN ci k).1 (am_TN ci k).2.1 (am_TN ci k).2.2.1 ∈ am_T) (hfin : (am_TN ci k).2.2.2 = false ∨ ((am_TN ci k).2.2.2 = true ∧ meth.name = "<init>" ∧ (am_TN ci k).1 = own)) (hob : h.1.2.2 q = .inr ci)
    (hg' : h'.1 = h.1) (ho : ∀ r, r ≠ q → h'.1.2.2 r = h.1.2.2 r ∧ h'.2.1 r = h.2.1 r ∧ h'.2.2 r = h.2.2 r) (ok : am_okv v → am_okh x h → am_okh x h') (hn : am_okv v → narrow (am_tN ci k) (am_cv (am_ad base xa) v) = am_cv (am_ad base xa) v ∧ fits (am_tN ci k) (am_cv (am_ad base xa) v) = true)
    (hv : ∀ i, i < am_nf ci → am_fv (am_ad base xa) ((am_fk ci).getD i 0) (h'.2.1 q i) (h'.2.2 q i) = if i = k then am_cv (am_ad base xa) v else am_fv (am_ad base xa) ((am_fk ci).getD i 0) (h.2.1 q i) (h.2.2 q i)) (hk : am_at p l e R s m args below meth c Q D base xa cA x nL n0 s0 nx L S h') : am_at p l e R s m args below meth c Q D base xa cA x nL n0 s0 pc L (v :: .inr (.inr (some q)) :: S) h := by
  obtain ⟨hx, hb, hml, hown, hts, hK, hbs, hex⟩ := cx
  obtain ⟨hd, rfl⟩ := hg
  refine am_writ (q := q) (h' := h') (fun o3 => am_at_obj o3 hex hob (by omega)) hg' ho (fun o2 o3 => ⟨am_okt (am_okt o2), ok (am_okd o2) o3⟩) (fun o2 o3 H locs ls cells slots hP hS kk => ?_) hk
  obtain ⟨q1, q2⟩ := am_at_obj o3 hex hob (by omega)
  have he := am_ws_at (base := base) (xa := xa) (cA := cA) q1 q2
  rw [hob] at he
  have fin : (Sum.inr (ci, ((List.range (am_nf ci)).map (fun i => am_fv (am_ad base xa) ((am_fk ci).getD i 0) (h.2.1 q i) (h.2.2 q i))).set k (am_cv (am_ad base xa) v)) : va_E) = am_ce (am_ad base xa) cA (h'.1.2.2 q) (h'.2.1 q) (h'.2.2 q) := by
    rw [show h'.1.2.2 q = .inr ci by rw [hg']; exact hob]
    show _ = (Sum.inr (ci, _) : va_E)
    congr 2
    apply List.ext_getElem?
    intro i
    by_cases hi : i < am_nf ci
    · rw [List.getElem?_map, List.getElem?_range hi]
      show _ = some (am_fv (am_ad base xa) _ (h'.2.1 q i) (h'.2.2 q i))
      rw [hv i hi]
      by_cases hik : k = i
      · subst hik
        rw [List.getElem?_set_self (by simp; exact hi), if_pos rfl]
      · rw [List.getElem?_set_ne hik, if_neg (Ne.symm hik)]
        simp [hi]
    · rw [List.getElem?_eq_none (by simp; omega), List.getElem?_eq_none (by simp; omega)]
  obtain ⟨n1, n2⟩ := hn (am_okd o2)
  rcases hfin with hf | ⟨hf, hin, hde⟩
  · exact va_put (C := am_RN ci) (T := am_TN ci) (N := am_nf ci) (v := am_cv (am_ad base xa) v) (ty := am_tN ci k) hx hb hts (am_cw ci hci) (am_tN ci) (am_tk ci hci) (am_nm ci hci) hown hK hP am_ws_D hS (q - 64) he (am_vw ci hci) k hkn (hts _ hl) (fun _ z => z) hf (am_tk ci hci k hkn) n1 n2 (by simp; exact hkn) hd (fun H1 locs1 hP1 hD1 hS1 => kk H1 locs1 _ fin hP1 hS1)
  · exact va_putF (C := am_RN ci) (T := am_TN ci) (N := am_nf ci) (v := am_cv (am_ad base xa) v) (ty := am_tN ci k) hx hb hts (am_cw ci hci) (am_tN ci) (am_tk ci hci) (am_nm ci hci) hown hK hP am_ws_D hS (q - 64) he (am_vw ci hci) k hkn (hts _ hl) (fun _ z => z) hf hin hde (am_tk ci hci k hkn) n1 n2 (by simp; exact hkn) hd (fun H1 locs1 hP1 hD1 hS1 => kk H1 locs1 _ fin hP1 hS1)
theorem am_fvI {ad : Nat → Nat} {kd : Nat} (h : kd ≠ 1) (h2 : kd ≠ 2) (y : Int) (g : Option Nat) : am_fv ad kd y g = .int (Int32.ofInt y) := by
  unfold am_fv
  split
  · exact absurd rfl h
  · exact absurd rfl h2
  · rfl
theorem so_42i (cx : am_cx p s m args c D base xa cA x cc nL n0 own) {ci k j q : Nat} {v : Int} (hci : ci < 13) (hkn : k < am_nf ci) (hg : am_dc cc pc nx (.putfield j) 3) (hl : Cond.fieldLink own j (am_TN ci k).1 (am_TN ci k).2.1 (am_TN ci k).2.2.1 ∈ am_T) (hfin : (am_TN ci k).2.2.2 = false ∨ ((am_TN ci k).2.2.2 = true ∧ meth.name = "<init>" ∧ (am_TN ci k).1 = own)) (hty : am_tN ci k = .int ∨ (am_tN ci k = .boolean ∧ (v = 0 ∨ v = 1))) (hkd : (am_fk ci).getD k 0 = 0) (ho : am_ob ci q h = true) (hk : am_at p l e R s m args below meth c Q D base xa cA x nL n0 s0 nx L S (am_hI h q k v)) : am_at p l e R s m args below meth c Q D base xa cA x nL n0 s0 pc L (.inl v :: .inr (.inr (some q)) :: S) h := by
  have hob := am_ob_spec ho
  have hex := cx.2.2.2.2.2.2.2
  refine am_pf (h' := am_hI h q k v) cx hci hkn hg hl hfin hob rfl am_hI_other (fun ov o3 => am_okh_I o3 (am_at_obj o3 hex hob (by omega)).1 ⟨am_r4_8 ov, fun _ => ov⟩) (fun ov => ?_) (fun i hi => ?_) hk
  · rcases hty with e1 | ⟨e1, rfl | rfl⟩
    · rw [e1]; exact ⟨rfl, rfl⟩
    · rw [e1]; exact ⟨show narrow .boolean (.int (Int32.ofInt 0)) = .int (Int32.ofInt 0) by decide +kernel, show fits .boolean (.int (Int32.ofInt 0)) = true by decide +kernel⟩
    · rw [e1]; exact ⟨show narrow .boolean (.int (Int32.ofInt 1)) = .int (Int32.ofInt 1) by decide +kernel, show fits .boolean (.int (Int32.ofInt 1)) = true by decide +kernel⟩
  · rw [am_hI_at]
    by_cases hik : i = k
    · subst hik
      rw [if_pos rfl, hkd, am_u1_self]
      rfl
    · rw [if_neg hik, am_u1_ne hik]
      rfl
theorem so_42l (cx : am_cx p s m args c D base xa cA x cc nL n0 own) {ci k j q : Nat} {v : Int} (hci : ci < 13) (hkn : k < am_nf ci) (hg : am_dc cc pc nx (.putfield j) 3) (hl : Cond.fieldLink own j (am_TN ci k).1 (am_TN ci k).2.1 (am_TN ci k).2.2.1 ∈ am_T) (hfin : (am_TN ci k).2.2.2 = false ∨ ((am_TN ci k).2.2.2 = true ∧ meth.name = "<init>" ∧ (am_TN ci k).1 = own)) (hty : am_tN ci k = .long) (hkd : (am_fk ci).getD k 0 = 1) (ho : am_ob ci q h = true) (hk : am_at p l e R s m args below meth c Q D base xa cA x nL n0 s0 nx L S (am_hI h q k v)) : am_at p l e R s m args below meth c Q D base xa cA x nL n0 s0 pc L (.inr (.inl v) :: .inr (.inr (some q)) :: S) h := by
  have hob := am_ob_spec ho
  have hex := cx.2.2.2.2.2.2.2
  refine am_pf (h' := am_hI h q k v) cx hci hkn hg hl hfin hob rfl am_hI_other (fun ov o3 => am_okh_I o3 (am_at_obj o3 hex hob (by omega)).1 ⟨ov, fun z => by rw [hob] at z; exact absurd hkd z⟩) (fun ov => by rw [hty]; exact ⟨rfl, rfl⟩) (fun i hi => ?_) hk
  rw [am_hI_at]
  by_cases hik : i = k
  · subst hik
    rw [if_pos rfl, hkd, am_u1_self]
    rfl
  · rw [if_neg hik, am_u1_ne hik]
    rfl
theorem so_42r (cx : am_cx p s m args c D base xa cA x cc nL n0 own) {ci k j q : Nat} {v : Option Nat} (hci : ci < 13) (hkn : k < am_nf ci) (hg : am_dc cc pc nx (.putfield j) 3) (hl : Cond.fieldLink own j (am_TN ci k).1 (am_TN ci k).2.1 (am_TN ci k).2.2.1 ∈ am_T) (hfin : (am_TN ci k).2.2.2 = false ∨ ((am_TN ci k).2.2.2 = true ∧ meth.name = "<init>" ∧ (am_TN ci k).1 = own)) (hty : (∃ n, am_tN ci k = .object n) ∨ ∃ t, am_tN ci k = .array t) (hkd : (am_fk ci).getD k 0 = 2) (ho : am_ob ci q h = true) (hk : am_at p l e R s m args below meth c Q D base xa cA x nL n0 s0 nx L S (am_hP h q k v)) : am_at p l e R s m args below meth c Q D base xa cA x nL n0 s0 pc L (.inr (.inr v) :: .inr (.inr (some q)) :: S) h := by
  have hob := am_ob_spec ho
  refine am_pf (h' := am_hP h q k v) cx hci hkn hg hl hfin hob rfl am_hP_other (fun ov o3 => o3) (fun ov => ?_) (fun i hi => ?_) hk
  · rcases hty with ⟨n, e1⟩ | ⟨t, e1⟩
    · rw [e1]
      match v with
      | none => exact ⟨rfl, rfl⟩
      | some y => exact ⟨rfl, rfl⟩
    · rw [e1]
      match v with
      | none => exact ⟨rfl, rfl⟩
      | some y => exact ⟨rfl, rfl⟩
  · rw [am_hP_at]
    by_cases hik : i = k
    · subst hik
      rw [if_pos rfl, hkd, am_u1_self]
      rfl
    · rw [if_neg hik, am_u1_ne hik]
      rfl
theorem so_47 (cx : am_cx p s m args c D base xa cA x cc nL n0 own) {k q : Nat} (hg : am_dc cc pc nx (.invokespecial k) 3) (hl : Cond.methodLink own k objectInit ∈ am_T) (hin : Cond.instanceMethod objectInit ∈ am_T) (hco : Cond.code objectInit ⟨#[0xb1]⟩ 1 none ∈ am_T) (hR : 1 ≤ R.frames ∧ 64 ≤ R.locals) (hz : am_sz S ≤ 8) (hk : am_at p l e R s m args below meth c Q D base xa cA x nL n0 s0 nx L S h) : am_at p l e R s m args below meth c Q D base xa cA x nL n0 s0 pc L (.inr (.inr (some q)) :: S) h := by
  obtain ⟨hx, hb, hml, hown, hts, hK, hbs, hex⟩ := cx
  obtain ⟨hd, rfl⟩ := hg
  refine am_pure (fun _ o _ => am_okt o) (fun _ o _ H locs ls cells slots hl1 kk => ?_) hk
  refine W.objInit hx hb hown (hts _ hl) (hts _ hin) (hts _ hco) rfl (by rw [hml]; exact hl1.2.1) rfl hd hR.1 ?_ kk
  show 2 * 0 + ((S.map (am_cv (am_ad base xa))).map fun v => v.category).sum + 12 ≤ _
  rw [am_sz_cv]
  omega
theorem so_48 (cx : am_cx p s m args c D base xa cA x cc nL n0 own) {o k : Nat} {a b : Int} (hg : am_dc cc pc nx (.invokestatic k) 3) (hl : (o = 0 ∧ Cond.methodLink own k Lib.Math.max.name ∈ am_T ∧ Cond.static Lib.Math.max.name ∈ am_T ∧ Cond.code Lib.Math.max.name Lib.Math.max.code 2 (some .int) ∈ am_T) ∨ (o = 1 ∧ Cond.methodLink own k Lib.Math.min.name ∈ am_T ∧ Cond.static Lib.Math.min.name ∈ am_T ∧ Cond.code Lib.Math.min.name Lib.Math.min.code 2 (some .int) ∈ am_T)) (hini : Cond.initialized "java/lang/Math" ∈ am_T) (hR : 1 ≤ R.frames ∧ 64 ≤ R.locals) (hc1 : h.1.1 ≤ n0 + R.cells) (hs1 : h.1.2.1 ≤ s0 + R.slots) (hz : am_sz S ≤ 8) (hk : am_at p l e R s m args below meth c Q D base xa cA x nL n0 s0 nx L (.inl (if o = 0 then (if a ≤ b then b else a) else (if a ≤ b then a else b)) :: S) h) : am_at p l e R s m args below meth c Q D base xa cA x nL n0 s0 pc L (.inl b :: .inl a :: S) h := by
  obtain ⟨hx, hb, hml, hown, hts, hK, hbs, hex⟩ := cx
  obtain ⟨hd, rfl⟩ := hg
  intro o1 o2 o3 H locs ls cells slots hP hS hl1 hc hs
  have hb4 : am_r4 b := am_okd o2
  have ha4 : am_r4 a := am_okd (am_okt o2)
  have kk := hk o1 (am_oki (by split <;> split <;> assumption) (am_okt (am_okt o2))) o3 H locs ls cells slots hP hS hl1 hc hs
  have hz : ((S.map (am_cv (am_ad base xa))).map fun v => v.category).sum + 13 ≤ R.locals := by rw [am_sz_cv]; omega
  rcases hl with ⟨rfl, l1, l2, l3⟩ | ⟨rfl, l1, l2, l3⟩
  · refine va_mmax hx hb (by rw [hml]; exact hl1.2.1.symm) hown (hts _ l1) (hts _ l2) (hts _ hini) (hts _ l3) hR.1 hz (by omega) (by omega) hd ?_
    have e1 : (if Int32.ofInt a < Int32.ofInt b then Int32.ofInt b else Int32.ofInt a) = Int32.ofInt (if a ≤ b then b else a) := by
      by_cases g : a < b
      · rw [if_pos ((am_lt4 ha4 hb4).mpr g), if_pos (by omega)]
      · rw [if_neg (fun z => g ((am_lt4 ha4 hb4).mp z))]
        by_cases g2 : a ≤ b
        · rw [if_pos g2, show a = b by omega]
        · rw [if_neg g2]
    rw [e1]
    exact kk
  · refine va_mmin hx hb (by rw [hml]; exact hl1.2.1.symm) hown (hts _ l1) (hts _ l2) (hts _ hini) (hts _ l3) hR.1 hz (by omega) (by omega) hd ?_
    have e1 : ∀ u : Int32, u = Int32.ofInt (if a ≤ b then a else b) → W p l e R s m args below meth c H locs cells slots Q (F0 m (pc + 3) ls (.int u :: S.map (am_cv (am_ad base xa)))) := by
      intro u hu
      rw [hu]
      exact kk
    refine e1 _ ?_
    by_cases g : a < b
    · rw [if_pos (show a ≤ b by omega)]
      first
        | rw [if_pos ((am_lt4 ha4 hb4).mpr g)]
        | rw [if_neg (fun z => by have := (am_lt4 hb4 ha4).mp z; omega)]
        | rw [if_pos ((am_le4 ha4 hb4).mpr (by omega))]
    · by_cases g2 : a ≤ b
      · rw [if_pos g2, show a = b by omega]
        split <;> rfl
      · rw [if_neg g2]
        first
          | rw [if_neg (fun z => g ((am_lt4 ha4 hb4).mp z))]
          | rw [if_pos ((am_lt4 hb4 ha4).mpr (by omega))]
          | rw [if_neg (fun z => g2 ((am_le4 ha4 hb4).mp z))]
theorem am_cpy4 {f g : Nat → Int} {a b n : Nat} : va_cpy (fun j => Int32.ofInt (f j)) (fun j => Int32.ofInt (g j)) a b n = fun j => Int32.ofInt (am_cp f g a b n j) := by
  funext j
  unfold va_cpy am_cp
  split <;> rfl
theorem so_52 (cx : am_cx p s m args c D base xa cA x cc nL n0 own) {k q0 q1 n0' n1' : Nat} {n dp sp : Int} (hg : am_dc cc pc nx (.invokestatic k) 3) (hl : Cond.methodLink own k arraycopyName ∈ am_T ∧ Cond.static arraycopyName ∈ am_T ∧ Cond.initialized "java/lang/System" ∈ am_T) (hna : (Cond.native arraycopyName).before args s = true) (hR : 1 ≤ R.frames ∧ 64 ≤ R.locals) (h0 : h.1.2.2 q0 = .inl (0, n0')) (h1 : h.1.2.2 q1 = .inl (0, n1')) (hr : 0 ≤ n ∧ 0 ≤ sp ∧ 0 ≤ dp ∧ sp + n ≤ (n0' : Int) ∧ dp + n ≤ (n1' : Int) ∧ am_sz S ≤ 8) (hk : am_at p l e R s m args below meth c Q D base xa cA x nL n0 s0 nx L S (am_hA h q1 (am_cp (h.2.1 q0) (h.2.1 q1) sp.toNat dp.toNat n.toNat))) : am_at p l e R s m args below meth c Q D base xa cA x nL n0 s0 pc L (.inl n :: .inl dp :: .inr (.inr (some q1)) :: .inl sp :: .inr (.inr (some q0)) :: S) h := by
  obtain ⟨hx, hb, hml, hown, hts, hK, hbs, hex⟩ := cx
  obtain ⟨hd, rfl⟩ := hg
  obtain ⟨r1, r2, r3, r4, r5, r6⟩ := hr
  intro o1 o2 o3 H locs ls cells slots hP hS hl1 hc hs
  have hn4 : am_r4 n := am_okd o2
  have hd4 : am_r4 dp := am_okd (am_okt o2)
  have hs4 : am_r4 sp := am_okd (am_okt (am_okt (am_okt o2)))
  obtain ⟨a1, a2⟩ := am_at_arr o3 hex h0 (by omega)
  obtain ⟨b1, b2⟩ := am_at_arr o3 hex h1 (by omega)
  have he0 := am_ws_at (base := base) (xa := xa) (cA := cA) a1 a2
  have he1 := am_ws_at (base := base) (xa := xa) (cA := cA) b1 b2
  rw [h0] at he0
  rw [h1] at he1
  refine va_copyi hx hb (by rw [hml]; exact hl1.2.1.symm) hown (hts _ hl.1) hna (hts _ hl.2.1) (hts _ hl.2.2) hK hP am_ws_D hS (q0 - 64) (q1 - 64) 0 0 he0 he1 rfl rfl rfl (am_nn r2 hs4) (am_nn r3 hd4) (am_nn r1 hn4) (by rw [am_clamp hs4, am_clamp hn4]; omega) (by rw [am_clamp hd4, am_clamp hn4]; omega) (fun _ _ => rfl) hR.1 ?_ hd (fun H1 locs1 hP1 hD1 hS1 => ?_)
  · rw [am_sz_cv]
    show am_sz S + (5 + 2 + 11) ≤ _
    omega
  · have e1 : (Sum.inl (cA 0, n1', Sum.inl (va_cpy (fun j => Int32.ofInt (h.2.1 q0 j)) (fun j => Int32.ofInt (h.2.1 q1 j)) (Int32.ofInt sp).toNatClampNeg (Int32.ofInt dp).toNatClampNeg (Int32.ofInt n).toNatClampNeg)) : va_E) = am_ce (am_ad base xa) cA ((am_hA h q1 (am_cp (h.2.1 q0) (h.2.1 q1) sp.toNat dp.toNat n.toNat)).1.2.2 q1) ((am_hA h q1 (am_cp (h.2.1 q0) (h.2.1 q1) sp.toNat dp.toNat n.toNat)).2.1 q1) ((am_hA h q1 (am_cp (h.2.1 q0) (h.2.1 q1) sp.toNat dp.toNat n.toNat)).2.2 q1) := by
      show _ = am_ce (am_ad base xa) cA (h.1.2.2 q1) (am_u1 h.2.1 q1 _ q1) (h.2.2 q1)
      rw [h1, am_u1_self, am_clamp hs4, am_clamp hd4, am_clamp hn4, am_cpy4]
      rfl
    have hP2 : va_P D vwCl ((am_ws base (am_ad base xa) cA h).set (q1 - 64) (am_ad base xa q1, _)) H1 := hP1
    rw [am_ws_set (h' := am_hA h q1 (am_cp (h.2.1 q0) (h.2.1 q1) sp.toNat dp.toNat n.toNat)) b1 b2 rfl am_hA_other e1] at hP2
    refine hk o1 (am_okt (am_okt (am_okt (am_okt (am_okt o2))))) (am_okh_A o3 b1 (fun j => ?_)) H1 locs1 ls cells slots hP2 hS1 hl1 hc hs
    unfold am_cp
    split
    · have := o3.2.2.1 q0 (sp.toNat + (j - dp.toNat))
      exact ⟨this.1, fun _ => this.2 (by rw [h0]; show (0 : Nat) ≠ 3; omega)⟩
    · exact o3.2.2.1 q1 j
end AMD
