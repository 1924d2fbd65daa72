/-! ===== what was there before, calls, returns ===== -/
def am_X (base : Nat) (xa : Nat → Nat) (x : am_H) (s : State) : Prop :=
  (∀ q n, q < 64 → x.1.2.2 q = .inl (7, n) → va_T .int (xa q) n (fun j => .int (Int32.ofInt (x.2.1 q j))) (fun q => base ≤ q) s s.heap) ∧
  va_Z "CloudCalls" "TERM_TOPS" "[I" (.ref (xa 1)) (fun q => base ≤ q) s s.heap ∧ va_Z "CloudCalls" "REFUSALS" "[I" (.ref (xa 2)) (fun q => base ≤ q) s s.heap ∧
  (∀ q ∈ am_SR, vk_R q.1 q.2.1 q.2.2.1 (xa q.2.2.2) s) ∧
  (∀ q ∈ am_NM, va_Nw (.methodLinkNest q.1 q.2.1 (am_yN q.2.2) "CloudCalls") s) ∧
  (∀ q ∈ am_NF, va_Nw (.fieldLinkNest q.1 q.2.1 "CloudCalls" q.2.2 "[I" "CloudCalls") s) ∧
  va_AO RX9 s ∧ va_AO RX1 s ∧
  vk_S 18 am_sl am_sb (fun i => xa (3 + i)) (fun i => xa (24 + i)) (fun q => base ≤ q) s s.heap ∧
  va_Z "java/lang/String" "COMPACT_STRINGS" "Z" (.int 1) (fun q => base ≤ q) s s.heap ∧
  (va_Z "jdk/internal/util/Preconditions" "SIOOBE_FORMATTER" "Ljava/util/function/BiFunction;" .null (fun q => base ≤ q) s s.heap ∨ va_Z "jdk/internal/util/Preconditions" "SIOOBE_FORMATTER" "Ljava/util/function/BiFunction;" (.ref (xa 63)) (fun q => base ≤ q) s s.heap)
theorem am_X_mv {base : Nat} {xa : Nat → Nat} {x : am_H} {s U : State} (h : am_X base xa x s) (hW : s.WarmedH U.vm) (hq : ∀ a : Nat, a < s.heap.size → ¬ (base ≤ a) → U.heap[a]? = s.heap[a]?) : am_X base xa x U := by
  obtain ⟨h1, h2, h3, h4, h5, h6, h7, h8, h9, h10, h11⟩ := h
  exact ⟨fun q n g e => ((h1 q n g e).moved hW.alike).kept hq, (h2.moved hW.alike).kept hq, (h3.moved hW.alike).kept hq, fun q g => (h4 q g).warm hW, fun q g => (h5 q g).warmM hW, fun q g => (h6 q g).warmF hW, h7.moved hW.alike, h8.moved hW.alike, (h9.moved hW.alike).kept hq, (h10.moved hW.alike).kept hq, h11.imp (fun z => (z.moved hW.alike).kept hq) (fun z => (z.moved hW.alike).kept hq)⟩
theorem am_X_cl {base : Nat} {xa : Nat → Nat} {x : am_H} {U : State} {g : JFrame} {mk : MethodId} {a : Array Value} (h : am_X base xa x U) : am_X base xa x (U.calling g mk a) := by
  obtain ⟨h1, h2, h3, h4, h5, h6, h7, h8, h9, h10, h11⟩ := h
  have hA : U.vm.Alike (U.calling g mk a).vm := Vm.Alike.refl U.vm
  exact ⟨fun q n g e => (h1 q n g e).moved hA, h2.moved hA, h3.moved hA, fun q g => vk_R.same rfl (h4 q g), fun q g => va_Nw.same rfl rfl (h5 q g), fun q g => va_Nw.same rfl rfl (h6 q g), h7.moved hA, h8.moved hA, h9.moved hA, h10.moved hA, h11.imp (fun z => z.moved hA) (fun z => z.moved hA)⟩
def am_Pw (D : va_G) (base : Nat) (xa : Nat → Nat) (cA : Nat → ClassId) (x h : am_H) (U : State) : Prop :=
  U.heap.size = base + h.1.1 ∧ va_P D vwCl (am_ws base (am_ad base xa) cA h) U.heap ∧ va_K D vwCl (am_tys cA) U ∧ am_X base xa x U
def am_Qc (D : va_G) (base : Nat) (xa : Nat → Nat) (cA : Nat → ClassId) (v : Option am_V) (h : am_H) : Array Value → State → Outcome → State → Prop := fun _ st oc t =>
  oc = .returned (v.map (am_cv (am_ad base xa))) ∧ (t.heap.size = base + h.1.1 ∧ va_P D vwCl (am_ws base (am_ad base xa) cA h) t.heap) ∧ va_F (fun q => base ≤ q) st t
def am_rm (d : Nat) (h h' : am_H) : Room := { frames := d, cells := h'.1.1 - h.1.1, slots := h'.1.2.1 - h.1.2.1, locals := 64 * d }
def am_Met (l : Launch) (D : va_G) (base : Nat) (xa : Nat → Nat) (cA : Nat → ClassId) (x : am_H) (d : Nat) (w : List Cond) (y : MethodName) (as : List am_V) (h : am_H) (v : Option am_V) (h' : am_H) : Prop :=
  Met l y w (am_rm d h h') (va_Pc (as.map (am_cv (am_ad base xa))) (am_Pw D base xa cA x h)) (am_Qc D base xa cA v h') (h'.1.1 - h.1.1) (h'.1.2.1 - h.1.2.1) (fun q => base ≤ q)
section AME
variable {p : Program} {l : Launch} {e : Env} {R : Room} {s : State} {m : MethodId} {args : Array Value} {below : List Frame} {meth : Method} {c : Code} {Q : State → Prop} {D : va_G} {base : Nat} {xa : Nat → Nat} {cA : Nat → ClassId} {x : am_H} {nL n0 s0 : Nat} {cc : ByteArray} {own : String}
variable {pc nx : Nat} {L : am_L} {S : List am_V} {h : am_H}
theorem am_blind {as : List Value} : FrameBlind (va_Pc as (am_Pw D base xa cA x h)) := fun a U g mk q => by
  obtain ⟨q0, q1, q2, q3, q4⟩ := q
  exact ⟨q0, q1, q2, va_K.moved (u := U) (U := U.calling g mk a) (Vm.Alike.refl U.vm) q3, am_X_cl q4⟩
theorem am_pre {H : Heap} {locs : List Loc} {as : List Value} (hK : va_K D vwCl (am_tys cA) s) (hX : am_X base xa x s) (hP : va_P D vwCl (am_ws base (am_ad base xa) cA h) H) (hz : H.size = base + h.1.1) (hS : va_S (fun q => base ≤ q) s.heap H locs) : ∀ U : State, U.heap = H → s.WarmedH U.vm → va_Pc as (am_Pw D base xa cA x h) as.toArray U :=
  fun U hU hW => ⟨rfl, by rw [hU]; exact hz, by rw [hU]; exact hP, va_K.moved hW.alike hK, am_X_mv hX hW (fun a h1 h2 => by rw [hU]; exact hS.2.1 a h1 h2)⟩
/-- behind a call -/
theorem am_go {v : Option am_V} {h' : am_H} {st0 : List Value} {S' : List am_V} {T : State} {H : Heap} {locs : List Loc} {cells slots : Nat} {ls : Array Slot} {a : Array Value} (hr : va_Run p l e R s m args below meth c H locs cells slots (h'.1.1 - h.1.1) (h'.1.2.1 - h.1.2.1) (F0 m pc ls st0) (S'.map (am_cv (am_ad base xa))) (am_Qc D base xa cA v h' a) (fun q => base ≤ q))
    (hT : T.heap = H) (X : Stand p l e R s m args below meth c T locs cells slots) (hz : H.size = base + h.1.1) (hS : va_S (fun q => base ≤ q) s.heap H locs) (hl : am_lh (am_ad base xa) ls nL L) (hc : cells + n0 = h.1.1) (hs : slots + s0 = h.1.2.1) (m1 : h.1.1 ≤ h'.1.1) (m2 : h.1.2.1 ≤ h'.1.2.1) (o1 : am_okL L) (o2 : am_okS (v.toList ++ S')) (o3 : am_okh x h')
    (hk : am_at p l e R s m args below meth c Q D base xa cA x nL n0 s0 (pc + 3) L (v.toList ++ S') h') : ∃ t, Steps p.tables e below (T.setTop (F0 m pc ls st0)) t ∧ Q t := by
  obtain ⟨w, st₀, t, T', Ls, h0, X', hL, e1, e2, ⟨hv, ⟨hz', hP'⟩, hF⟩, st⟩ := hr T hT X
  obtain ⟨t2, a1, b1⟩ := hk o1 o2 o3 T'.heap (locs ++ Ls) ls (cells + (h'.1.1 - h.1.1)) (slots + (h'.1.2.1 - h.1.2.1)) (by rw [e1]; exact hP')
    ⟨by rw [e1, hz']; have := hS.1; omega, fun q h1 h2 => by
      have h3 := hS.1
      rw [e1, hF.2 q (by rw [h0]; omega) h2, h0]
      exact hS.2.1 q h1 h2, fun q hq => by
      rcases List.mem_append.mp hq with g | g
      · exact hS.2.2 q g
      · exact hL q g⟩ hl (by omega) (by omega) T' rfl X'
  refine ⟨t2, st t2 ?_, b1⟩
  have hv : w = v.map (am_cv (am_ad base xa)) := Outcome.returned.inj hv
  rw [hv]
  show Steps p.tables e below (T'.setTop (F0 m (pc + 3) ls ((v.map (am_cv (am_ad base xa))).toList ++ S'.map (am_cv (am_ad base xa))))) t2
  rw [show (v.map (am_cv (am_ad base xa))).toList ++ S'.map (am_cv (am_ad base xa)) = (v.toList ++ S').map (am_cv (am_ad base xa)) by cases v <;> simp]
  exact a1
theorem am_take {f : am_V → Value} {n : Nat} : S.map f = (((S.take n).reverse).map f).reverse ++ (S.drop n).map f := by
  rw [← List.map_reverse, List.reverse_reverse, ← List.map_append, List.take_append_drop]
theorem am_ok_take {n : Nat} (o : am_okS S) : am_okS (S.take n).reverse := fun v hv => o v (List.mem_of_mem_take (List.mem_reverse.mp hv))
theorem am_ok_drop {n : Nat} (o : am_okS S) : am_okS (S.drop n) := fun v hv => o v (List.mem_of_mem_drop hv)
theorem am_ok_app {v : Option am_V} {S' : List am_V} (h1 : ∀ w, v = some w → am_okv w) (h2 : am_okS S') : am_okS (v.toList ++ S') := by
  cases v with
  | none => exact h2
  | some w => exact am_okc (h1 w rfl) h2
theorem so_45 (cx : am_cx p s m args c D base xa cA x cc nL n0 own) (hX : am_X base xa x s) {y : MethodName} {b : ByteArray} {ml np k d : Nat} {rt : Option FieldType} {w : List Cond} {v : Option am_V} {h' : am_H} (hg : am_dc cc pc nx (.invokestatic k) 3) (hmi : am_mi w y b ml rt np) (hst : Cond.static y ∈ am_T) (hl : Cond.methodLink own k y ∈ am_T ∨ ∃ host, va_Nw (.methodLinkNest own k y host) s)
    (hR : d + 1 ≤ R.frames ∧ 64 * (d + 1) ≤ R.locals) (hn : np ≤ S.length ∧ am_sz (S.drop np) ≤ 8)
    (hM : am_okS (S.take np).reverse → am_okh x h → am_Met l D base xa cA x d w y (S.take np).reverse h v h' ∧ (∀ z, v = some z → am_okv z) ∧ am_okh x h' ∧ h.1.1 ≤ h'.1.1 ∧ h.1.2.1 ≤ h'.1.2.1) (hc1 : h'.1.1 ≤ n0 + R.cells) (hs1 : h'.1.2.1 ≤ s0 + R.slots)
    (hk : am_at p l e R s m args below meth c Q D base xa cA x nL n0 s0 nx L (v.toList ++ S.drop np) h') : am_at p l e R s m args below meth c Q D base xa cA x nL n0 s0 pc L S h := by
  obtain ⟨hx, hb, hml, hown, hts, hK, hbs, hex⟩ := cx
  obtain ⟨hd, rfl⟩ := hg
  intro o1 o2 o3 H locs ls cells slots hP hS hl1 hc hs T hT X
  have hz := am_size X hT hP hS hbs hc
  obtain ⟨hM, hv, ok', m1, m2⟩ := hM (am_ok_take o2) o3
  have hlen : (((S.take np).reverse).map (am_cv (am_ad base xa))).length = np := by rw [List.length_map, List.length_reverse, List.length_take]; omega
  have hW : 2 * (F0 m pc ls (S.map (am_cv (am_ad base xa)))).monitorRoom + (((S.drop np).map (am_cv (am_ad base xa))).map fun v => v.category).sum ≤ 8 := by
    show 2 * 0 + _ ≤ _
    rw [am_sz_cv]
    omega
  have hR2 : (am_rm d h h').frames + 1 ≤ R.frames ∧ 8 + (ml + 11) + (am_rm d h h').locals ≤ R.locals := ⟨hR.1, by show 8 + (ml + 11) + 64 * d ≤ _; have := hmi.2.2.2.2.2.2; omega⟩
  refine am_go (a := (((S.take np).reverse).map (am_cv (am_ad base xa))).toArray) (st0 := S.map (am_cv (am_ad base xa))) (S' := S.drop np) ?_ hT X hz hS hl1 hc hs m1 m2 o1 (am_ok_app hv (am_ok_drop o2)) ok' hk
  rcases hl with hl | ⟨host, hl⟩
  · exact va_runS (As := ((S.take np).reverse).map (am_cv (am_ad base xa))) ⟨hx, hb, hml, hown, hts⟩ hM ⟨callB_of np hts (am_mi_good hmi) hmi.1 rfl rfl (hts _ hmi.2.2.1) (hts _ hl) ⟨hmi.2.2.2.1, hmi.2.2.2.2.1, hmi.2.2.2.2.2.1⟩ hR2, hts _ hst⟩ ⟨am_blind, am_pre hK hX hP hz hS⟩ rfl hlen hl1.2.1 am_take hW hd ⟨by omega, by omega⟩
  · exact va_runSN (As := ((S.take np).reverse).map (am_cv (am_ad base xa))) ⟨hx, hb, hml, hown, hts⟩ hM ⟨va_cnB np hts (am_mi_good hmi) hmi.1 rfl rfl hl (hts _ hmi.2.2.1) ⟨hmi.2.2.2.1, hmi.2.2.2.2.1, hmi.2.2.2.2.2.1⟩ hR2, hts _ hst, trivial⟩ ⟨am_blind, am_pre hK hX hP hz hS⟩ rfl hlen hl1.2.1 am_take hW hd ⟨by omega, by omega⟩
/-- a call on an object: virtual (io = false) or a constructor -/
theorem so_46 (cx : am_cx p s m args c D base xa cA x cc nL n0 own) (hX : am_X base xa x s) {y : MethodName} {b : ByteArray} {ml np k d ci q : Nat} {rt : Option FieldType} {w : List Cond} {as : List am_V} {v : Option am_V} {h' : am_H} (hci : ci < 13) (hg : (am_dc cc pc nx (.invokevirtual k) 3 ∧ Cond.selects (am_RN ci) y y ∈ am_T ∧ Cond.methodLink own k y ∈ am_T) ∨ (am_dc cc pc nx (.invokespecial k) 3 ∧ y.name = "<init>" ∧ rt = none ∧ (Cond.methodLink own k y ∈ am_T ∨ ∃ host, va_Nw (.methodLinkNest own k y host) s))) (hmi : am_mi w y b ml rt np) (hst : Cond.instanceMethod y ∈ am_T)
    (hR : d + 1 ≤ R.frames ∧ 64 * (d + 1) ≤ R.locals) (hn : np + 1 ≤ S.length ∧ am_sz (S.drop (np + 1)) ≤ 8) (hta : (S.take (np + 1)).reverse = .inr (.inr (some q)) :: as) (ho : am_ob ci q h = true)
    (hM : am_okS (.inr (.inr (some q)) :: as) → am_okh x h → am_Met l D base xa cA x d w y (.inr (.inr (some q)) :: as) h v h' ∧ (∀ z, v = some z → am_okv z) ∧ am_okh x h' ∧ h.1.1 ≤ h'.1.1 ∧ h.1.2.1 ≤ h'.1.2.1) (hc1 : h'.1.1 ≤ n0 + R.cells) (hs1 : h'.1.2.1 ≤ s0 + R.slots)
    (hk : am_at p l e R s m args below meth c Q D base xa cA x nL n0 s0 nx L (v.toList ++ S.drop (np + 1)) h') : am_at p l e R s m args below meth c Q D base xa cA x nL n0 s0 pc L S h := by
  have hdc : nx = pc + 3 := by rcases hg with ⟨g, -⟩ | ⟨g, -⟩ <;> exact g.2
  subst hdc
  obtain ⟨hx, hb, hml, hown, hts, hK, hbs, hex⟩ := cx
  intro o1 o2 o3 H locs ls cells slots hP hS hl1 hc hs T hT X
  have hz := am_size X hT hP hS hbs hc
  have hok := am_ok_take (n := np + 1) o2
  rw [hta] at hok
  obtain ⟨hM, hv, ok', m1, m2⟩ := hM hok o3
  have hlen : (as.map (am_cv (am_ad base xa))).length = np := by
    have := congrArg List.length hta
    rw [List.length_reverse, List.length_take, List.length_cons] at this
    rw [List.length_map]
    omega
  have hst0 : S.map (am_cv (am_ad base xa)) = (as.map (am_cv (am_ad base xa))).reverse ++ .ref (am_ad base xa q) :: (S.drop (np + 1)).map (am_cv (am_ad base xa)) := by
    rw [am_take (n := np + 1), hta, List.map_cons, List.reverse_cons, List.append_assoc]
    rfl
  have hW : 2 * (F0 m pc ls (S.map (am_cv (am_ad base xa)))).monitorRoom + (((S.drop (np + 1)).map (am_cv (am_ad base xa))).map fun v => v.category).sum ≤ 8 := by
    show 2 * 0 + _ ≤ _
    rw [am_sz_cv]
    omega
  have hR2 : (am_rm d h h').frames + 1 ≤ R.frames ∧ 8 + (ml + 11) + (am_rm d h h').locals ≤ R.locals := ⟨hR.1, by show 8 + (ml + 11) + 64 * d ≤ _; have := hmi.2.2.2.2.2.2; omega⟩
  have hob := am_ob_spec ho
  obtain ⟨q1, q2⟩ := am_at_obj o3 hex hob (by omega)
  have he := am_ws_at (base := base) (xa := xa) (cA := cA) q1 q2
  rw [hob] at he
  refine am_go (a := (Value.ref (am_ad base xa q) :: as.map (am_cv (am_ad base xa))).toArray) (st0 := S.map (am_cv (am_ad base xa))) (S' := S.drop (np + 1)) ?_ hT X hz hS hl1 hc hs m1 m2 o1 (am_ok_app hv (am_ok_drop o2)) ok' hk
  rcases hg with ⟨⟨hd, -⟩, hse, hl⟩ | ⟨⟨hd, -⟩, hy1, rfl, hl | ⟨host, hl⟩⟩
  · exact va_runV (C := am_RN ci) (As := as.map (am_cv (am_ad base xa))) ⟨hx, hb, hml, hown, hts⟩ hM ⟨callB_of np hts (am_mi_good hmi) hmi.1 rfl rfl (hts _ hmi.2.2.1) (hts _ hl) ⟨hmi.2.2.2.1, hmi.2.2.2.2.1, hmi.2.2.2.2.2.1⟩ hR2, hts _ hst, hts _ hse⟩ ⟨am_blind, va_recv hK hP (am_vw ci hci) he, am_pre (as := .ref (am_ad base xa q) :: as.map (am_cv (am_ad base xa))) hK hX hP hz hS⟩ rfl hlen hl1.2.1 hst0 hW hd ⟨by omega, by omega⟩
  · exact va_runI (As := as.map (am_cv (am_ad base xa))) ⟨hx, hb, hml, hown, hts⟩ hM ⟨callB_of np hts (am_mi_good hmi) hmi.1 rfl rfl (hts _ hmi.2.2.1) (hts _ hl) ⟨hmi.2.2.2.1, hmi.2.2.2.2.1, hmi.2.2.2.2.2.1⟩ hR2, hy1, hts _ hst⟩ ⟨am_blind, am_pre (as := .ref (am_ad base xa q) :: as.map (am_cv (am_ad base xa))) hK hX hP hz hS⟩ rfl hlen hl1.2.1 hst0 hW hd ⟨by omega, by omega⟩
  · exact va_runIN (As := as.map (am_cv (am_ad base xa))) ⟨hx, hb, hml, hown, hts⟩ hM ⟨va_cnB np hts (am_mi_good hmi) hmi.1 rfl rfl hl (hts _ hmi.2.2.1) ⟨hmi.2.2.2.1, hmi.2.2.2.2.1, hmi.2.2.2.2.2.1⟩ hR2, hy1, hts _ hst⟩ ⟨am_blind, am_pre (as := .ref (am_ad base xa q) :: as.map (am_cv (am_ad base xa))) hK hX hP hz hS⟩ rfl hlen hl1.2.1 hst0 hW hd ⟨by omega, by omega⟩
end AME
section AMR
variable {p : Program} {l : Launch} {e : Env} {R : Room} {s : State} {m : MethodId} {args : Array Value} {below : List Frame} {meth : Method} {c : Code} {D : va_G} {base : Nat} {xa : Nat → Nat} {cA : Nat → ClassId} {x : am_H} {nL n0 s0 : Nat} {cc : ByteArray} {own : String}
variable {pc nx : Nat} {L : am_L} {S : List am_V} {h : am_H}
/-- a method's end -/
theorem am_end {v : Option am_V} (hbs : s.heap.size = base + n0)
    (st : am_okS S → ∀ (H : Heap) (locs : List Loc) (ls : Array Slot) (cells slots : Nat), (∀ t : State, t.heap = H → s.WarmedH t.vm → am_Qc D base xa cA v h args s (.returned (v.map (am_cv (am_ad base xa)))) t) → (∀ q ∈ locs, base ≤ q.base) → W p l e R s m args below meth c H locs cells slots (MQ below (am_Qc D base xa cA v h) args s cells slots (fun q => base ≤ q)) (F0 m pc ls (S.map (am_cv (am_ad base xa))))) :
    am_at p l e R s m args below meth c (MQ below (am_Qc D base xa cA v h) args s (h.1.1 - n0) (h.1.2.1 - s0) (fun q => base ≤ q)) D base xa cA x nL n0 s0 pc L S h := by
  intro o1 o2 o3 H locs ls cells slots hP hS hl hc hs T hT X
  have hz := am_size X hT hP hS hbs hc
  have e1 : h.1.1 - n0 = cells := by omega
  have e2 : h.1.2.1 - s0 = slots := by omega
  rw [e1, e2]
  exact st o2 H locs ls cells slots (fun t ht hW => ⟨rfl, ⟨by rw [ht]; exact hz, by rw [ht]; exact hP⟩, hS.F ht⟩) hS.2.2 T hT X
theorem so_53 (cx : am_cx p s m args c D base xa cA x cc nL n0 own) (hr : meth.sig.returnType = some .int) (hlk : meth.locks = false) {v : Int} (hg : decode cc pc = .ok (.ireturn, 1)) : am_at p l e R s m args below meth c (MQ below (am_Qc D base xa cA (some (.inl v)) h) args s (h.1.1 - n0) (h.1.2.1 - s0) (fun q => base ≤ q)) D base xa cA x nL n0 s0 pc L [.inl v] h := by
  obtain ⟨hx, hb, hml, hown, hts, hK, hbs, hex⟩ := cx
  exact am_end hbs (fun _ H locs ls cells slots hq hf => W.iret hx hb hr hq hf hg hlk)
theorem so_54 (cx : am_cx p s m args c D base xa cA x cc nL n0 own) (hr : meth.sig.returnType = some .long) (hlk : meth.locks = false) {v : Int} (hg : decode cc pc = .ok (.lreturn, 1)) : am_at p l e R s m args below meth c (MQ below (am_Qc D base xa cA (some (.inr (.inl v))) h) args s (h.1.1 - n0) (h.1.2.1 - s0) (fun q => base ≤ q)) D base xa cA x nL n0 s0 pc L [.inr (.inl v)] h := by
  obtain ⟨hx, hb, hml, hown, hts, hK, hbs, hex⟩ := cx
  exact am_end hbs (fun _ H locs ls cells slots hq hf => W.lret hx hb hr hq hf hg hlk)
theorem so_55 (cx : am_cx p s m args c D base xa cA x cc nL n0 own) {rt : FieldType} (hr : meth.sig.returnType = some rt) (hrt : ∃ n, rt = .object n) (hlk : meth.locks = false) {v : Nat} (hg : decode cc pc = .ok (.areturn, 1)) : am_at p l e R s m args below meth c (MQ below (am_Qc D base xa cA (some (.inr (.inr (some v)))) h) args s (h.1.1 - n0) (h.1.2.1 - s0) (fun q => base ≤ q)) D base xa cA x nL n0 s0 pc L [.inr (.inr (some v))] h := by
  obtain ⟨hx, hb, hml, hown, hts, hK, hbs, hex⟩ := cx
  exact am_end hbs (fun _ H locs ls cells slots hq hf => W.aret hx hb hr (Or.inl hrt) (Or.inr ⟨_, rfl⟩) hq hf hg hlk)
theorem so_56 (cx : am_cx p s m args c D base xa cA x cc nL n0 own) (hr : meth.sig.returnType = none) (hlk : meth.locks = false) (hg : decode cc pc = .ok (.return_, 1)) : am_at p l e R s m args below meth c (MQ below (am_Qc D base xa cA none h) args s (h.1.1 - n0) (h.1.2.1 - s0) (fun q => base ≤ q)) D base xa cA x nL n0 s0 pc L [] h := by
  obtain ⟨hx, hb, hml, hown, hts, hK, hbs, hex⟩ := cx
  exact am_end hbs (fun _ H locs ls cells slots hq hf => W.vret hx hb hr hq hf hg hlk)
theorem so_57 (cx : am_cx p s m args c D base xa cA x cc nL n0 own) (hr : meth.sig.returnType = some .boolean) (hlk : meth.locks = false) {v : Int} (hv : v = 0 ∨ v = 1) (hg : decode cc pc = .ok (.ireturn, 1)) : am_at p l e R s m args below meth c (MQ below (am_Qc D base xa cA (some (.inl v)) h) args s (h.1.1 - n0) (h.1.2.1 - s0) (fun q => base ≤ q)) D base xa cA x nL n0 s0 pc L [.inl v] h := by
  obtain ⟨hx, hb, hml, hown, hts, hK, hbs, hex⟩ := cx
  exact am_end hbs (fun _ H locs ls cells slots hq hf => W.zret hx hb hr (by rcases hv with rfl | rfl <;> decide +kernel) hq hf hg hlk)
end AMR
