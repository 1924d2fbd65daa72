/-! THE CLAIM OUT OF ONE WALK OF THE LAW'S BODY. Your part is whole_start (and what it stands on); all else here is the same for every law, but numbers. -/
def R_law : String := "CloudCallsLaw"
def lw_P (b : Addr) (xs : List Int32) (args : Array Value) (s : State) : Prop := args = #[.ref b] ∧ s.IntsAt b xs ∧ xs.length ≤ 3072 ∧ (Jvm.Cond.and given_1 narrow_1).before args s = true
def lw_Q (_ : Array Value) (s : State) (o : Outcome) (t : State) : Prop := o = .returned (some (.int 1)) ∧ Framed s o t [] 600000 7302250
def lw_Z (below : List Frame) (a : Array Value) (s : State) : State → Prop := fun t => ∃ o, t.status = .running ∧ Ended t below o ∧ lw_Q a s o t
/-- the law's own end, with 1 on the stack, nothing written that was there before, its room as the claim has it -/
theorem lw_ret {p : Program} {l : Launch} {e : Env} {s : State} {m : MethodId} {below : List Frame} {meth : Method} {c : Code} {b : Nat} (hx : p.tables.exec = Jvm.exec) (hb : c.code = code) (hr : meth.sig.returnType = ret) (hlocks : meth.locks = false) {pc : Nat} {H : Heap} {ls : Array Slot} (hdg : decode code pc = .ok (.ireturn, 1)) : W p l e room_1 s m #[Value.ref b] below meth c H [] 600000 7302250 (lw_Z below #[Value.ref b] s) (F0 m pc ls [.int 1]) := by
  intro T hT X
  obtain ⟨fs, hret, hrun, hended, hW, hframe⟩ := X.leave (v := some (.int 1)) (hlocks := hlocks) (fun h => by rw [hr] at h; cases h)
  have hmeth' : T.vm.method? m = some meth := X.method'
  refine ⟨T.setFrames fs, ?_, .returned (some (.int 1)), hrun, hended, rfl, ⟨_, rfl⟩, hW, hframe⟩
  jvm_step X.here [X.here.top, hx, hb, hdg, hmeth', hr, ret, narrow_b1]
  (try refine ⟨rfl, ?_⟩); (try refine ⟨rfl, ?_⟩)
  first | (intro acts; rw [hret _ acts rfl rfl rfl]) | rw [hret _ _ rfl rfl rfl]
  exact Steps.refl _
/-- what holds at the law's entry: the machine, the code, the tables' words (any of lw_tbl by 'hts w (by decide +kernel)'), the script of L ints xs at the cell b, what the Statement gives of the start (any of its parts by flat_of_before) -/
def lw_At (p : Program) (s : State) (m : MethodId) (meth : Method) (c : Code) (b L : Nat) (xs : Nat → Int32) : Prop :=
  p.tables.exec = Jvm.exec ∧ c.code = code ∧ meth.sig.returnType = ret ∧ c.maxLocals = 4 ∧ s.vm.findClass R_law = some m.cls ∧ (∀ w ∈ lw_tbl, w.before #[Value.ref b] s = true) ∧ va_X b L xs s s.heap ∧ b < s.heap.size ∧ meth.locks = false ∧ (Jvm.Cond.and given_1 narrow_1).before #[Value.ref b] s = true
/-! ===== THE LAW OUT OF ONE RUN OF THE ABSTRACT MACHINE ===== -/
def am_x0 (L : Nat) (xs : Nat → Int32) : am_H :=
  ((0, 0, fun q => if q = 0 then .inl (7, L) else if q = 1 then .inl (7, 3) else if q = 2 then .inl (7, 5) else if q < 21 then .inl (8, am_sl.getD (q - 3) 0) else .inr 99),
   fun q j => if q = 0 then (if j < L then (xs j).toInt else 0) else if q = 1 then ([999, 10, 9] : List Int).getD j 0 else if q = 2 then ([1, 2, 3, 5, 6] : List Int).getD j 0 else if q < 21 then ((am_sb.getD (q - 3) []).getD j 0).toInt else 0,
   fun _ _ => none)
theorem am_x0_ext (L : Nat) (xs : Nat → Int32) : am_ext (am_x0 L xs) := by
  intro q hq
  show (if q = 0 then _ else _) = _ ∨ ∃ n, (if q = 0 then _ else _) = _ ∨ (if q = 0 then _ else _) = _
  by_cases h0 : q = 0
  · rw [if_pos h0]; exact Or.inr ⟨L, Or.inl rfl⟩
  · rw [if_neg h0]
    by_cases h1 : q = 1
    · rw [if_pos h1]; exact Or.inr ⟨3, Or.inl rfl⟩
    · rw [if_neg h1]
      by_cases h2 : q = 2
      · rw [if_pos h2]; exact Or.inr ⟨5, Or.inl rfl⟩
      · rw [if_neg h2]
        by_cases h3 : q < 21
        · rw [if_pos h3]; exact Or.inr ⟨_, Or.inr rfl⟩
        · rw [if_neg h3]; exact Or.inl rfl
theorem am_x0_S (L : Nat) (xs : Nat → Int32) : am_exS (am_x0 L xs) := by
  intro q n hq e
  have e : (if q = 0 then (.inl (7, L) : (Nat × Nat) ⊕ Nat) else if q = 1 then .inl (7, 3) else if q = 2 then .inl (7, 5) else if q < 21 then .inl (8, am_sl.getD (q - 3) 0) else .inr 99) = .inl (8, n) := e
  by_cases h0 : q = 0
  · rw [if_pos h0] at e; cases e
  · rw [if_neg h0] at e
    by_cases h1 : q = 1
    · rw [if_pos h1] at e; cases e
    · rw [if_neg h1] at e
      by_cases h2 : q = 2
      · rw [if_pos h2] at e; cases e
      · rw [if_neg h2] at e
        by_cases h3 : q < 21
        · rw [if_pos h3] at e
          cases e
          refine ⟨by omega, h3, rfl, fun j hj => ?_⟩
          show (if q = 0 then _ else if q = 1 then _ else if q = 2 then _ else if q < 21 then _ else _) = _
          rw [if_neg h0, if_neg h1, if_neg h2, if_pos h3]
        · rw [if_neg h3] at e; cases e
theorem am_x0_I (L : Nat) (xs : Nat → Int32) (q j : Nat) : am_r4 ((am_x0 L xs).2.1 q j) := by
  show am_r4 (if q = 0 then _ else if q = 1 then _ else if q = 2 then _ else if q < 21 then _ else _)
  split
  · split
    · exact am_r4_to _
    · exact ⟨by omega, by omega⟩
  · split
    · have : ∀ z ∈ ([999, 10, 9] : List Int), am_r4 z := by
        intro z hz
        simp at hz
        rcases hz with rfl | rfl | rfl <;> exact ⟨by omega, by omega⟩
      rw [List.getD_eq_getElem?_getD]
      cases hj : ([999, 10, 9] : List Int)[j]? with
      | none => exact ⟨by show (-2147483648 : Int) ≤ 0; omega, by show (0 : Int) ≤ 2147483647; omega⟩
      | some z => exact this z (List.mem_of_getElem? hj)
    · split
      · have : ∀ z ∈ ([1, 2, 3, 5, 6] : List Int), am_r4 z := by
          intro z hz
          simp at hz
          rcases hz with rfl | rfl | rfl | rfl | rfl <;> exact ⟨by omega, by omega⟩
        rw [List.getD_eq_getElem?_getD]
        cases hj : ([1, 2, 3, 5, 6] : List Int)[j]? with
        | none => exact ⟨by show (-2147483648 : Int) ≤ 0; omega, by show (0 : Int) ≤ 2147483647; omega⟩
        | some z => exact this z (List.mem_of_getElem? hj)
      · split
        · exact am_r4_to _
        · exact ⟨by omega, by omega⟩
theorem am_x0_ok {L : Nat} (hL : L ≤ 3072) (xs : Nat → Int32) : am_okh (am_x0 L xs) (am_x0 L xs) := by
  have hs : ∀ q t n, (am_x0 L xs).1.2.2 q = .inl (t, n) → q < 21 ∧ n ≤ 100000 := by
    intro q t n e
    have e : (if q = 0 then (.inl (7, L) : (Nat × Nat) ⊕ Nat) else if q = 1 then .inl (7, 3) else if q = 2 then .inl (7, 5) else if q < 21 then .inl (8, am_sl.getD (q - 3) 0) else .inr 99) = .inl (t, n) := e
    by_cases h0 : q = 0
    · rw [if_pos h0] at e; cases e; exact ⟨by omega, by omega⟩
    · rw [if_neg h0] at e
      by_cases h1 : q = 1
      · rw [if_pos h1] at e; cases e; exact ⟨by omega, by omega⟩
      · rw [if_neg h1] at e
        by_cases h2 : q = 2
        · rw [if_pos h2] at e; cases e; exact ⟨by omega, by omega⟩
        · rw [if_neg h2] at e
          by_cases h3 : q < 21
          · rw [if_pos h3] at e
            cases e
            have := (am_sb_ok (q - 3) (by omega)).2.1
            exact ⟨h3, by omega⟩
          · rw [if_neg h3] at e; cases e
  refine ⟨fun q hq => ?_, fun q _ => ⟨rfl, rfl⟩, fun q j => ⟨am_r4_8 (am_x0_I L xs q j), fun _ => am_x0_I L xs q j⟩, fun q t n e => ⟨(hs q t n e).2, fun g => by have := (hs q t n e).1; omega⟩, fun q c q1 q2 _ => ?_⟩
  · have hq : 64 + 0 ≤ q := hq
    show (if q = 0 then _ else if q = 1 then _ else if q = 2 then _ else if q < 21 then _ else _) = _
    rw [if_neg (by omega), if_neg (by omega), if_neg (by omega), if_neg (by omega)]
  · have q2 : q < 64 + 0 := q2
    omega
theorem am_kinds {s : State} {args : Array Value} (hts : ∀ w ∈ lw_tbl, w.before args s = true) : ∃ (D : va_G) (cA : Nat → ClassId), va_K D vwCl (am_tys cA) s := by
  have htT : ∀ w ∈ am_T, w.before args s = true := fun w h => hts w (List.mem_filter.mp h).1
  have hIN : ∀ ci, ci < 13 → ci ∈ am_IN := by decide +kernel
  have hc : ∀ ci : Nat, ∃ q : ClassId × (Nat → Nat), ci < 13 → u_Kn s (am_RN ci) (am_TN ci) (am_nf ci) q.1 q.2 := by
    intro ci
    by_cases h : ci < 13
    · obtain ⟨cC, iS, hk⟩ := u_known (C := am_RN ci) (T := am_TN ci) (N := am_nf ci) (n := am_nf ci) htT (am_cw ci h) (htT _ (am_IN_ok ci (hIN ci h)))
      exact ⟨(cC, iS), fun _ => hk⟩
    · exact ⟨(0, fun _ => 0), fun z => absurd z h⟩
  obtain ⟨f, hf⟩ := Classical.axiomOfChoice hc
  obtain ⟨c0, k0, p0, a0, b0, d0⟩ := Cond.arrayClass_spec (htT _ am_ax_int)
  obtain ⟨c1, k1, p1, a1, b1, d1⟩ := Cond.arrayClass_spec (htT _ am_ax_byte)
  obtain ⟨c2, k2, p2, a2, b2, d2⟩ := Cond.arrayClass_spec (htT _ am_ax_boolean)
  obtain ⟨c3, k3, p3, a3, b3, d3⟩ := Cond.arrayClass_spec (htT _ am_ax_long)
  obtain ⟨p4, c4, k4, e4, -, b4, d4, a4⟩ := Cond.arrayOver_spec (hts _ lw_ao9)
  obtain ⟨p5, c5, k5, e5, -, b5, d5, a5⟩ := Cond.arrayOver_spec (hts _ lw_ao1)
  refine ⟨(fun c => (f c).1, fun c => (f c).2), fun t => ([c0, c1, c2, c3, c4, c5] : List ClassId).getD t 0, fun c q hq => ?_, fun k q hk => ?_⟩
  · have hc13 : c < 13 := (List.getElem?_eq_some_iff.mp hq).1
    rw [am_vw c hc13] at hq
    cases hq
    exact hf c hc13
  · have hk6 : k < 6 := (List.getElem?_eq_some_iff.mp hk).1
    match k, hk6 with
    | 0, _ => cases hk; exact ⟨fun n z => ⟨(fun k h => by cases h), k0, b0, p0, d0⟩, a0⟩
    | 1, _ => cases hk; exact ⟨fun n z => ⟨(fun k h => by cases h), k1, b1, p1, d1⟩, a1⟩
    | 2, _ => cases hk; exact ⟨fun n z => ⟨(fun k h => by cases h), k2, b2, p2, d2⟩, a2⟩
    | 3, _ => cases hk; exact ⟨fun n z => ⟨(fun k h => by cases h), k3, b3, p3, d3⟩, a3⟩
    | 4, _ => cases hk; exact ⟨fun n z => ⟨(fun k h => by cases h), k4, b4, p4, d4⟩, k4, p4, b4, d4, e4, a4⟩
    | 5, _ => cases hk; exact ⟨fun n z => ⟨(fun k h => by cases h), k5, b5, p5, d5⟩, k5, p5, b5, d5, e5, a5⟩
theorem am_begin {s : State} {b L : Nat} {xs : Nat → Int32} (hts : ∀ w ∈ lw_tbl, w.before #[Value.ref b] s = true) (hX : va_X b L xs s s.heap) (hb : b < s.heap.size) (hgv : (Jvm.Cond.and given_1 narrow_1).before #[Value.ref b] s = true) : ∃ xa : Nat → Nat, xa 0 = b ∧ am_X s.heap.size xa (am_x0 L xs) s := by
  have hF : ∀ w ∈ am_F, w.before #[Value.ref b] s = true := flat_of_before _ hgv
  have htT : ∀ w ∈ am_T, w.before #[Value.ref b] s = true := fun w h => hts w (List.mem_filter.mp h).1
  have hA : ∀ a : Nat, a < s.heap.size → ¬ (s.heap.size ≤ a) := fun a h => by omega
  obtain ⟨t1, ev1, T1⟩ := va_Tof (N := 3) (f := fun j => .int (Int32.ofInt (([999, 10, 9] : List Int).getD j 0))) (A := fun q => s.heap.size ≤ q) (by omega) (hF _ fl_TERM_TOPS_a) (va_eqt (hF _ fl_TERM_TOPS_l)) (fun j hj => va_eqt (hF _ (am_Fi _ (fl_TERM_TOPS_e j hj)))) hA
  obtain ⟨t2, ev2, T2⟩ := va_Tof (N := 5) (f := fun j => .int (Int32.ofInt (([1, 2, 3, 5, 6] : List Int).getD j 0))) (A := fun q => s.heap.size ≤ q) (by omega) (hF _ fl_REFUSALS_a) (va_eqt (hF _ fl_REFUSALS_l)) (fun j hj => va_eqt (hF _ (am_Fi _ (fl_REFUSALS_e j hj)))) hA
  have hcc : Cond.initialized "CloudCalls" ∈ am_T := am_IZ_ok 11 (by decide +kernel)
  have Z1 := va_Zref (A := fun q => s.heap.size ≤ q) (hts _ lw_ls_tt) (htT _ hcc) ev1 hA
  have Z2 := va_Zref (A := fun q => s.heap.size ≤ q) (hts _ lw_ls_rf) (htT _ hcc) ev2 hA
  have Zc := va_Zof (A := fun q => s.heap.size ≤ q) (hts _ lw_ls_com) (htT _ am_ji_s) (va_eqi (hF _ fl_com)) hA
  have Zf := va_Zqof (A := fun q => s.heap.size ≤ q) (hts _ lw_ls_fmt) (htT _ am_ji_p) (hF _ fl_fmt) hA
  obtain ⟨adK, adV, hS, hev⟩ := vk_Sof (N := 18) (tm := am_tm) (len := am_sl) (byt := am_sb) (A := fun q => s.heap.size ≤ q) (args := #[Value.ref b]) (s := s) (fun i hi => by have := (am_sb_ok i hi).2.1; omega) (fun i hi => hF _ (am_Fi _ (fl_sx i hi))) (fun i hi => hF _ (am_Fi _ (fl_sc i hi))) (fun i hi => hF _ (am_Fi _ (fl_sa i hi))) (fun i hi => hF _ (am_Fi _ (fl_sl i hi))) (fun i hi j hj => hF _ (am_Fi _ (fl_se i hi j hj))) (fun i j hi hj hij => by
    have := hF _ (am_Fi _ (fl_sn i hi j hj hij))
    split at this
    · exact Or.inl this
    · exact Or.inr this) hA
  have main : ∀ tf : Nat, (va_Z "jdk/internal/util/Preconditions" "SIOOBE_FORMATTER" "Ljava/util/function/BiFunction;" .null (fun q => s.heap.size ≤ q) s s.heap ∨ va_Z "jdk/internal/util/Preconditions" "SIOOBE_FORMATTER" "Ljava/util/function/BiFunction;" (.ref tf) (fun q => s.heap.size ≤ q) s s.heap) → ∃ xa : Nat → Nat, xa 0 = b ∧ am_X s.heap.size xa (am_x0 L xs) s := by
    intro tf hz
    refine ⟨fun q => if q = 0 then b else if q = 1 then t1 else if q = 2 then t2 else if q < 21 then adK (q - 3) else if q = 63 then tf else adV (q - 24), rfl, ?_, Z1, Z2, fun q hq => ?_, fun q hq => va_Nw.of rfl (hts _ (lw_nm q hq)), fun q hq => va_Nw.of rfl (hts _ (lw_nf q hq)), va_AO.of (hts _ lw_ao9), va_AO.of (hts _ lw_ao1), ?_, Zc, hz⟩
    · intro q n hq e
      have e : (if q = 0 then (.inl (7, L) : (Nat × Nat) ⊕ Nat) else if q = 1 then .inl (7, 3) else if q = 2 then .inl (7, 5) else if q < 21 then .inl (8, am_sl.getD (q - 3) 0) else .inr 99) = .inl (7, n) := e
      by_cases h0 : q = 0
      · subst h0
        rw [if_pos rfl] at e
        cases e
        obtain ⟨scr, x1, x2, x3, x4, x5⟩ := hX
        refine ⟨scr, x1, x2, x3, by rw [x4]; exact Nat.le_refl _, by first | (rw [x4]; done) | (rw [x4]; rfl), fun j hj => ?_, fun z => by have z : s.heap.size ≤ b := z; omega⟩
        rw [x5 j hj]
        show _ = some (Value.int (Int32.ofInt (if j < L then (xs j).toInt else 0)))
        rw [if_pos hj, am_of_toInt]
      · rw [if_neg h0] at e
        by_cases h1 : q = 1
        · subst h1
          rw [if_pos rfl] at e
          cases e
          exact T1
        · rw [if_neg h1] at e
          by_cases h2 : q = 2
          · subst h2
            rw [if_pos rfl] at e
            cases e
            exact T2
          · rw [if_neg h2] at e
            by_cases h3 : q < 21
            · rw [if_pos h3] at e; cases e
            · rw [if_neg h3] at e; cases e
    · obtain ⟨i, hi, rfl⟩ := lw_srm q hq
      obtain ⟨r1, r2, r3⟩ := lw_sr2 i hi
      have w1 := hts _ (lw_sr _ hq)
      have w2 := hev i hi
      rw [r3]
      show vk_R _ _ _ (if 3 + i = 0 then b else if 3 + i = 1 then t1 else if 3 + i = 2 then t2 else if 3 + i < 21 then adK (3 + i - 3) else _) s
      rw [if_neg (by omega), if_neg (by omega), if_neg (by omega), if_pos (by omega), show 3 + i - 3 = i by omega]
      refine vk_R.of (A := #[Value.ref b]) w1 ?_
      rw [r1, r2]
      exact w2
    · have e1 : (fun i => (fun q => if q = 0 then b else if q = 1 then t1 else if q = 2 then t2 else if q < 21 then adK (q - 3) else if q = 63 then tf else adV (q - 24)) (3 + i)) = fun i => if 3 + i < 21 then adK i else if 3 + i = 63 then tf else adV (3 + i - 24) := by
        funext i
        show (if 3 + i = 0 then b else if 3 + i = 1 then t1 else if 3 + i = 2 then t2 else if 3 + i < 21 then adK (3 + i - 3) else _) = _
        rw [if_neg (by omega), if_neg (by omega), if_neg (by omega), show 3 + i - 3 = i by omega]
      refine ⟨fun i hi => ?_, fun i j hi hj hij => ?_⟩
      · have g := hS.1 i hi
        have e3 : (if 3 + i = 0 then b else if 3 + i = 1 then t1 else if 3 + i = 2 then t2 else if 3 + i < 21 then adK (3 + i - 3) else if 3 + i = 63 then tf else adV (3 + i - 24)) = adK i := by
          rw [if_neg (by omega), if_neg (by omega), if_neg (by omega), if_pos (by omega), show 3 + i - 3 = i by omega]
        have e4 : (if 24 + i = 0 then b else if 24 + i = 1 then t1 else if 24 + i = 2 then t2 else if 24 + i < 21 then adK (24 + i - 3) else if 24 + i = 63 then tf else adV (24 + i - 24)) = adV i := by
          rw [if_neg (by omega), if_neg (by omega), if_neg (by omega), if_neg (by omega), if_neg (by omega), show 24 + i - 24 = i by omega]
        refine ⟨?_, ?_, ?_, ?_⟩
        · show va_O _ (if 3 + i = 0 then b else if 3 + i = 1 then t1 else if 3 + i = 2 then t2 else if 3 + i < 21 then adK (3 + i - 3) else if 3 + i = 63 then tf else adV (3 + i - 24)) _ _ _
          rw [e3]; exact g.1
        · show va_OF _ _ _ _ (if 3 + i = 0 then b else if 3 + i = 1 then t1 else if 3 + i = 2 then t2 else if 3 + i < 21 then adK (3 + i - 3) else if 3 + i = 63 then tf else adV (3 + i - 24)) _ _ _
          rw [e3]; exact g.2.1
        · show va_OF _ _ _ (.ref (if 24 + i = 0 then b else if 24 + i = 1 then t1 else if 24 + i = 2 then t2 else if 24 + i < 21 then adK (24 + i - 3) else if 24 + i = 63 then tf else adV (24 + i - 24))) (if 3 + i = 0 then b else if 3 + i = 1 then t1 else if 3 + i = 2 then t2 else if 3 + i < 21 then adK (3 + i - 3) else if 3 + i = 63 then tf else adV (3 + i - 24)) _ _ _
          rw [e3, e4]; exact g.2.2.1
        · show va_T _ (if 24 + i = 0 then b else if 24 + i = 1 then t1 else if 24 + i = 2 then t2 else if 24 + i < 21 then adK (24 + i - 3) else if 24 + i = 63 then tf else adV (24 + i - 24)) _ _ _ _ _
          rw [e4]; exact g.2.2.2
      · have e3 : ∀ i, i < 18 → (if 3 + i = 0 then b else if 3 + i = 1 then t1 else if 3 + i = 2 then t2 else if 3 + i < 21 then adK (3 + i - 3) else if 3 + i = 63 then tf else adV (3 + i - 24)) = adK i := by
          intro i hi
          rw [if_neg (by omega), if_neg (by omega), if_neg (by omega), if_pos (by omega), show 3 + i - 3 = i by omega]
        have hij : (if 3 + i = 0 then b else if 3 + i = 1 then t1 else if 3 + i = 2 then t2 else if 3 + i < 21 then adK (3 + i - 3) else if 3 + i = 63 then tf else adV (3 + i - 24)) = (if 3 + j = 0 then b else if 3 + j = 1 then t1 else if 3 + j = 2 then t2 else if 3 + j < 21 then adK (3 + j - 3) else if 3 + j = 63 then tf else adV (3 + j - 24)) := hij
        rw [e3 i hi, e3 j hj] at hij
        exact hS.2 i j hi hj hij
  rcases Zf with z | ⟨tf, z⟩
  · exact main 0 (Or.inl z)
  · exact main tf (Or.inr z)
/-- what is left: the program's run over every script -/
def am_goal : Prop := ∀ (L : Nat) (xs : Nat → Int32), L ≤ 3072 → ∃ (n : Nat) (h' : am_H), am_run (am_call am_B am_M 100) (am_B 288) n (am_B 288 0) (am_loc 4 [.inr (.inr (some 0))]) [] (am_x0 L xs) = some (some (.inl 1), h') ∧ h'.1.1 ≤ 600000 ∧ h'.1.2.1 ≤ 7302250
set_option maxHeartbeats 4000000 in
theorem am_law (hgoal : am_goal) {p : Program} {e : Env} {s : State} {m : MethodId} {below : List Frame} {meth : Method} {c : Code} (l : Launch) {b L : Nat} {xs : Nat → Int32} (hL : L ≤ 3072) (C0 : lw_At p s m meth c b L xs) : W p l e room_1 s m #[Value.ref b] below meth c s.heap [] 0 0 (lw_Z below #[Value.ref b] s) (entryFrame m ([Value.ref b] : List Value).toArray 4) := by
  obtain ⟨hx, hb, hr, hml, hown, hts, hX, hbl, hlocks, hgv⟩ := C0
  obtain ⟨D, cA, hK⟩ := am_kinds hts
  obtain ⟨xa, hxa, hXX⟩ := am_begin hts hX hbl hgv
  obtain ⟨n, h', hrun, hn1, hn2⟩ := hgoal L xs hL
  have hex := am_x0_ext L xs
  have hS8 : am_SC8 l D s.heap.size xa cA (am_x0 L xs) := am_SC8_of hex (am_x0_S L xs)
  have hKC := am_sound (D := D) (base := s.heap.size) (xa := xa) (cA := cA) hex hS8 100
  have cx : am_cx p s m #[Value.ref b] c D s.heap.size xa cA (am_x0 L xs) cL_law 4 0 (am_ON 13) := ⟨hx, hb, hml, hown, fun w h => hts w (List.mem_filter.mp h).1, hK, rfl, hex⟩
  have hck : ∀ z, am_ckL 13 cL_law (some .boolean) false (fun z => am_hd (am_B 288 z)) (am_B 288 z) = true := am_ck_at ck_L_law
  have e0 : am_cv (am_ad s.heap.size xa) (.inr (.inr (some 0))) = Value.ref b := by
    show Value.ref (am_ad s.heap.size xa 0) = _
    unfold am_ad
    rw [if_pos (by omega), hxa]
  have hl := am_loc_lh (ad := am_ad s.heap.size xa) (as := [.inr (.inr (some 0))]) (n := 4) (by show (1 : Nat) ≤ 4; omega)
  rw [lg_entry_eq]
  rw [List.map_cons, List.map_nil, e0] at hl
  refine am_walk (o := (some (.inl 1), h')) (R := room_1) (Q := lw_Z below #[Value.ref b] s) (n0 := 0) (s0 := 0) (below := below) cx hXX (fun z => by cases z) hKC hS8 ⟨by show 100 + 8 + 1 ≤ 2048; omega, by show 64 * (100 + 8 + 1) ≤ 84000; omega⟩ (by omega) hck (by show h'.1.1 ≤ 0 + 600000; omega) (by show h'.1.2.1 ≤ 0 + 7302250; omega) (fun nx i L1 S1 h1 g es => ?_) n _ _ _ _ (hck 0) hrun (am_loc_ok (am_okr am_ok0)) am_ok0 (am_x0_ok hL xs) s.heap [] _ 0 0 (fun k q hq => by cases hq) va_S.rf hl rfl rfl
  obtain ⟨e1, e2⟩ := am_ret g es
  have e1 : h' = h1 := e1
  subst e1
  rcases e2 with ⟨q1, -, -⟩ | ⟨q1, -, -⟩ | ⟨⟨nn, q1⟩, -, -⟩ | ⟨q1, -, -⟩ | ⟨q1, ⟨w, hw, hS, hv⟩, hd⟩
  · cases q1
  · cases q1
  · cases q1
  · cases q1
  · cases hv
    subst hS
    intro o1 o2 o3 H locs ls cells slots hP hSS hl2 hc hs
    refine va_forget (fun q hq => hSS.2.2 q hq) ?_
    refine W.widen (k := 600000) (n := 7302250) (by omega) (by omega) ?_
    exact lw_ret hx hb hr hlocks hd
