/-! ===== what an instruction of the program stands for in the code ===== -/
def am_dc (cc : ByteArray) (pc nx : Nat) (i : Instr) (len : Nat) : Prop := decode cc pc = .ok (i, len) ∧ nx = pc + len
def am_jc (cc : ByteArray) (pc : Nat) (t f : Nat) (i : Int → Instr) : Prop := decode cc pc = .ok (i ((t : Int) - pc), 3) ∧ f = pc + 3
def am_ib (o : Nat) : Instr := match o with
  | 0 => .iadd
  | 1 => .isub
  | 2 => .imul
  | 3 => .iand
  | 4 => .ior
  | 5 => .ixor
  | 6 => .ishl
  | 7 => .ishr
  | _ => .iushr
def am_lb (o : Nat) : Instr := match o with
  | 0 => .ladd
  | 1 => .lsub
  | _ => .lmul
def am_cn (o : Nat) : ClassFile.Cond := match o with
  | 0 => .eq
  | 1 => .ne
  | 2 => .lt
  | 3 => .ge
  | 4 => .gt
  | _ => .le
def am_kt (p : Program) (l : Launch) (e : Env) (R : Room) (s : State) (m : MethodId) (args : Array Value) (below : List Frame) (meth : Method) (c : Code) (Q : State → Prop) (D : va_G) (base : Nat) (xa : Nat → Nat) (cA : Nat → ClassId) (x : am_H) (nL n0 s0 : Nat) (bp : Nat → Nat) (nx : Nat) (r : am_O ⊕ (Option Nat × am_L × List am_V × am_H)) : Prop := match r with
  | .inl _ => True
  | .inr (none, L, S, h) => am_at p l e R s m args below meth c Q D base xa cA x nL n0 s0 nx L S h
  | .inr (some b, L, S, h) => am_at p l e R s m args below meth c Q D base xa cA x nL n0 s0 (bp b) L S h
section AMB
variable {p : Program} {l : Launch} {e : Env} {R : Room} {s : State} {m : MethodId} {args : Array Value} {below : List Frame} {meth : Method} {c : Code} {Q : State → Prop} {D : va_G} {base : Nat} {xa : Nat → Nat} {cA : Nat → ClassId} {x : am_H} {nL n0 s0 : Nat} {cc : ByteArray} {own : String}
variable {pc nx : Nat} {L : am_L} {S : List am_V} {h : am_H}
theorem so_0 (cx : am_cx p s m args c D base xa cA x cc nL n0 own) {v : Int} {ns : List Nat} (hr : am_r4 v) (hg : am_dc cc pc nx (.iconst v) 1 ∨ (am_dc cc pc nx (.bipush v) 2 ∧ (Int8.ofInt v).toInt32 = Int32.ofInt v) ∨ (am_dc cc pc nx (.sipush v) 3 ∧ (Int16.ofInt v).toInt32 = Int32.ofInt v) ∨ ∃ k, ns = [k] ∧ Cond.constant own k (Int32.ofInt v) ∈ am_T ∧ (am_dc cc pc nx (.ldc k) 2 ∨ am_dc cc pc nx (.ldc_w k) 3)) (hk : am_at p l e R s m args below meth c Q D base xa cA x nL n0 s0 nx L (.inl v :: S) h) : am_at p l e R s m args below meth c Q D base xa cA x nL n0 s0 pc L S h := by
  obtain ⟨hx, hb, hml, hown, hts, hK, hbs, hex⟩ := cx
  refine am_pureS (fun o => am_oki hr o) (fun o H locs ls cells slots kk => ?_) hk
  rcases hg with ⟨hd, rfl⟩ | ⟨⟨hd, rfl⟩, hv⟩ | ⟨⟨hd, rfl⟩, hv⟩ | ⟨k, -, hw, ⟨hd, rfl⟩ | ⟨hd, rfl⟩⟩
  · exact lv_iconst hx hb hd rfl kk
  · exact lv_bipush hx hb hd hv kk
  · exact lv_sipush hx hb hd hv kk
  · exact lv_ldc hx hb hown (hts _ hw) hd kk
  · exact lv_ldcw hx hb hown (hts _ hw) hd kk
theorem so_1 (cx : am_cx p s m args c D base xa cA x cc nL n0 own) {v : Int} {ns : List Nat} (hr : am_r8 v) (hg : (∃ f : Fin 2, Int64.ofNat (f : Nat) = Int64.ofInt v ∧ am_dc cc pc nx (.lconst f) 1) ∨ ∃ k, ns = [k] ∧ Cond.constantLong own k (Int64.ofInt v) ∈ am_T ∧ am_dc cc pc nx (.ldc2_w k) 3) (hk : am_at p l e R s m args below meth c Q D base xa cA x nL n0 s0 nx L (.inr (.inl v) :: S) h) : am_at p l e R s m args below meth c Q D base xa cA x nL n0 s0 pc L S h := by
  obtain ⟨hx, hb, hml, hown, hts, hK, hbs, hex⟩ := cx
  refine am_pureS (fun o => am_okj hr o) (fun o H locs ls cells slots kk => ?_) hk
  rcases hg with ⟨f, hf, hd, rfl⟩ | ⟨k, -, hw, hd, rfl⟩
  · exact lv_lconst hx hb hd hf kk
  · exact lv_ldc2 hx hb hown (hts _ hw) hd kk
theorem so_2 (cx : am_cx p s m args c D base xa cA x cc nL n0 own) (hg : am_dc cc pc nx .aconst_null 1) (hk : am_at p l e R s m args below meth c Q D base xa cA x nL n0 s0 nx L (.inr (.inr none) :: S) h) : am_at p l e R s m args below meth c Q D base xa cA x nL n0 s0 pc L S h := by
  obtain ⟨hx, hb, hml, hown, hts, hK, hbs, hex⟩ := cx
  obtain ⟨hd, rfl⟩ := hg
  exact am_pureS (fun o => am_okr o) (fun o H locs ls cells slots kk => lv_null hx hb hd kk) hk
theorem so_4 (cx : am_cx p s m args c D base xa cA x cc nL n0 own) {k : Nat} {v : Int} (hg : am_dc cc pc nx (.iload k) 2 ∨ ∃ f : Fin 4, (f : Nat) = k ∧ am_dc cc pc nx (.iload_n f) 1) (hv : am_ld L k = some (.inl v)) (hk : am_at p l e R s m args below meth c Q D base xa cA x nL n0 s0 nx L (.inl v :: S) h) : am_at p l e R s m args below meth c Q D base xa cA x nL n0 s0 pc L S h := by
  obtain ⟨hx, hb, hml, hown, hts, hK, hbs, hex⟩ := cx
  refine am_pure (fun a o _ => am_okc (am_ld_ok a hv) o) (fun _ o _ H locs ls cells slots hl kk => ?_) hk
  rcases hg with ⟨hd, rfl⟩ | ⟨f, hf, hd, rfl⟩
  · exact lv_iload hx hb hd (am_lh_at hl hv) kk
  · exact lv_iload_n hx hb hd hf (am_lh_at hl hv) kk
theorem so_5 (cx : am_cx p s m args c D base xa cA x cc nL n0 own) {k : Nat} {v : Int} (hg : am_dc cc pc nx (.lload k) 2 ∨ ∃ f : Fin 4, (f : Nat) = k ∧ am_dc cc pc nx (.lload_n f) 1) (hv : am_ld L k = some (.inr (.inl v))) (hk : am_at p l e R s m args below meth c Q D base xa cA x nL n0 s0 nx L (.inr (.inl v) :: S) h) : am_at p l e R s m args below meth c Q D base xa cA x nL n0 s0 pc L S h := by
  obtain ⟨hx, hb, hml, hown, hts, hK, hbs, hex⟩ := cx
  refine am_pure (fun a o _ => am_okc (am_ld_ok a hv) o) (fun _ o _ H locs ls cells slots hl kk => ?_) hk
  rcases hg with ⟨hd, rfl⟩ | ⟨f, hf, hd, rfl⟩
  · exact lv_lload hx hb hd (am_lh_at hl hv) kk
  · exact lv_lload_n hx hb hd hf (am_lh_at hl hv) kk
theorem so_6 (cx : am_cx p s m args c D base xa cA x cc nL n0 own) {k : Nat} {v : Option Nat} (hg : am_dc cc pc nx (.aload k) 2 ∨ ∃ f : Fin 4, (f : Nat) = k ∧ am_dc cc pc nx (.aload_n f) 1) (hv : am_ld L k = some (.inr (.inr v))) (hk : am_at p l e R s m args below meth c Q D base xa cA x nL n0 s0 nx L (.inr (.inr v) :: S) h) : am_at p l e R s m args below meth c Q D base xa cA x nL n0 s0 pc L S h := by
  obtain ⟨hx, hb, hml, hown, hts, hK, hbs, hex⟩ := cx
  refine am_pure (fun a o _ => am_okc (am_ld_ok a hv) o) (fun _ o _ H locs ls cells slots hl kk => ?_) hk
  rcases hg with ⟨hd, rfl⟩ | ⟨f, hf, hd, rfl⟩
  · match v with
    | none => exact lv_aloadN hx hb hd (am_lh_at hl hv) kk
    | some q => exact lv_aload hx hb hd (am_lh_at hl hv) kk
  · match v with
    | none => exact lv_aload_nN hx hb hd hf (am_lh_at hl hv) kk
    | some q => exact lv_aload_n hx hb hd hf (am_lh_at hl hv) kk
theorem so_7 (cx : am_cx p s m args c D base xa cA x cc nL n0 own) {k : Nat} {v : Int} (hg : am_dc cc pc nx (.istore k) 2 ∨ ∃ f : Fin 4, (f : Nat) = k ∧ am_dc cc pc nx (.istore_n f) 1) (hn : k < L.length) (hk : am_at p l e R s m args below meth c Q D base xa cA x nL n0 s0 nx (am_st1 L k (.inl v)) S h) : am_at p l e R s m args below meth c Q D base xa cA x nL n0 s0 pc L (.inl v :: S) h := by
  obtain ⟨hx, hb, hml, hown, hts, hK, hbs, hex⟩ := cx
  intro o1 o2 o3 H locs ls cells slots hP hS hl hc hs
  have hn : k < nL := by rw [← hl.1]; exact hn
  have kk : ∀ ls' : Array Slot, lv_has ls' nL ((k, am_cv (am_ad base xa) (.inl v)) :: (am_ps (am_ad base xa) L).filter (fun q => !(q.1 == k) && !(q.1 + 1 == k && q.2.category == 2))) → W p l e R s m args below meth c H locs cells slots Q (F0 m nx ls' (S.map (am_cv (am_ad base xa)))) :=
    fun ls' h' => hk (am_okL_st1 o1 (am_okd o2)) (am_okt o2) o3 H locs ls' cells slots hP hS (am_lh_st1 hl h') hc hs
  rcases hg with ⟨hd, rfl⟩ | ⟨f, hf, hd, rfl⟩
  · exact lv_istore hx hb hd hl.2 hn rfl kk
  · exact lv_istore_n hx hb hd hf hl.2 hn rfl kk
theorem so_8 (cx : am_cx p s m args c D base xa cA x cc nL n0 own) {k : Nat} {v : Int} (hg : am_dc cc pc nx (.lstore k) 2 ∨ ∃ f : Fin 4, (f : Nat) = k ∧ am_dc cc pc nx (.lstore_n f) 1) (hn : k + 1 < L.length) (hk : am_at p l e R s m args below meth c Q D base xa cA x nL n0 s0 nx (am_st2 L k (.inr (.inl v))) S h) : am_at p l e R s m args below meth c Q D base xa cA x nL n0 s0 pc L (.inr (.inl v) :: S) h := by
  obtain ⟨hx, hb, hml, hown, hts, hK, hbs, hex⟩ := cx
  intro o1 o2 o3 H locs ls cells slots hP hS hl hc hs
  have hn : k + 1 < nL := by rw [← hl.1]; exact hn
  have kk : ∀ ls' : Array Slot, lv_has ls' nL ((k, am_cv (am_ad base xa) (.inr (.inl v))) :: (am_ps (am_ad base xa) L).filter (fun q => !(q.1 == k) && (!(q.1 == k + 1) && !(q.1 + 1 == k && q.2.category == 2)))) → W p l e R s m args below meth c H locs cells slots Q (F0 m nx ls' (S.map (am_cv (am_ad base xa)))) :=
    fun ls' h' => hk (am_okL_st2 o1 (am_okd o2)) (am_okt o2) o3 H locs ls' cells slots hP hS (am_lh_st2 hl h') hc hs
  rcases hg with ⟨hd, rfl⟩ | ⟨f, hf, hd, rfl⟩
  · exact lv_lstore hx hb hd hl.2 hn rfl kk
  · exact lv_lstore_n hx hb hd hf hl.2 hn rfl kk
theorem so_9 (cx : am_cx p s m args c D base xa cA x cc nL n0 own) {k : Nat} {v : Option Nat} (hg : am_dc cc pc nx (.astore k) 2 ∨ ∃ f : Fin 4, (f : Nat) = k ∧ am_dc cc pc nx (.astore_n f) 1) (hn : k < L.length) (hk : am_at p l e R s m args below meth c Q D base xa cA x nL n0 s0 nx (am_st1 L k (.inr (.inr v))) S h) : am_at p l e R s m args below meth c Q D base xa cA x nL n0 s0 pc L (.inr (.inr v) :: S) h := by
  obtain ⟨hx, hb, hml, hown, hts, hK, hbs, hex⟩ := cx
  intro o1 o2 o3 H locs ls cells slots hP hS hl hc hs
  have hn : k < nL := by rw [← hl.1]; exact hn
  have kk : ∀ ls' : Array Slot, lv_has ls' nL ((k, am_cv (am_ad base xa) (.inr (.inr v))) :: (am_ps (am_ad base xa) L).filter (fun q => !(q.1 == k) && !(q.1 + 1 == k && q.2.category == 2))) → W p l e R s m args below meth c H locs cells slots Q (F0 m nx ls' (S.map (am_cv (am_ad base xa)))) :=
    fun ls' h' => hk (am_okL_st1 o1 (am_okd o2)) (am_okt o2) o3 H locs ls' cells slots hP hS (am_lh_st1 hl h') hc hs
  rcases hg with ⟨hd, rfl⟩ | ⟨f, hf, hd, rfl⟩
  · match v with
    | none => exact lv_astoreN hx hb hd hl.2 hn rfl kk
    | some q => exact lv_astore hx hb hd hl.2 hn rfl kk
  · match v with
    | none => exact lv_astore_nN hx hb hd hf hl.2 hn rfl kk
    | some q => exact lv_astore_n hx hb hd hf hl.2 hn rfl kk
theorem so_10 (cx : am_cx p s m args c D base xa cA x cc nL n0 own) {k : Nat} {v n : Int} (hg : am_dc cc pc nx (.iinc k n) 3) (hv : am_ld L k = some (.inl v)) (hk : am_at p l e R s m args below meth c Q D base xa cA x nL n0 s0 nx (am_st1 L k (.inl (am_b2 0 v n))) S h) : am_at p l e R s m args below meth c Q D base xa cA x nL n0 s0 pc L S h := by
  obtain ⟨hx, hb, hml, hown, hts, hK, hbs, hex⟩ := cx
  obtain ⟨hd, rfl⟩ := hg
  intro o1 o2 o3 H locs ls cells slots hP hS hl hc hs
  have hL : L[k]? = some (some (.inl v)) := by
    unfold am_ld at hv
    split at hv
    · rename_i w hw
      rw [hw, Option.some.inj hv]
    · cases hv
  have hn : k < nL := by rw [← hl.1]; exact (List.getElem?_eq_some_iff.mp hL).1
  obtain ⟨j, hj⟩ := List.getElem?_of_mem (am_ps_mem (ad := (am_ad base xa)) hL)
  refine lv_iinc (v := Int32.ofInt (am_b2 0 v n)) hx hb hd hl.2 hj ?_ hn rfl (fun ls' h' => hk (am_okL_st1 o1 (am_r4_to _)) o2 o3 H locs ls' cells slots hP hS (am_lh_st1 hl h') hc hs)
  show _ = Int32.ofInt (_ + _ : Int32).toInt
  rw [am_of_toInt]
theorem so_11 (cx : am_cx p s m args c D base xa cA x cc nL n0 own) {o : Nat} {a b : Int} (ho : o ≤ 8) (hg : am_dc cc pc nx (am_ib o) 1) (hk : am_at p l e R s m args below meth c Q D base xa cA x nL n0 s0 nx L (.inl (am_b2 o a b) :: S) h) : am_at p l e R s m args below meth c Q D base xa cA x nL n0 s0 pc L (.inl b :: .inl a :: S) h := by
  obtain ⟨hx, hb, hml, hown, hts, hK, hbs, hex⟩ := cx
  obtain ⟨hd, rfl⟩ := hg
  refine am_pureS (fun q => am_oki (am_r4_to _) (am_okt (am_okt q))) (fun q H locs ls cells slots kk => ?_) hk
  have kk : W p l e R s m args below meth c H locs cells slots Q (F0 m (pc + 1) ls (.int (am_b4 o (Int32.ofInt a) (Int32.ofInt b)) :: S.map (am_cv (am_ad base xa)))) := by
    rw [← am_of_toInt (am_b4 o (Int32.ofInt a) (Int32.ofInt b))]
    exact kk
  match o, ho with
  | 0, _ => exact lv_iadd hx hb hd kk
  | 1, _ => exact lv_isub hx hb hd kk
  | 2, _ => exact lv_imul hx hb hd kk
  | 3, _ => exact lv_iand hx hb hd kk
  | 4, _ => exact lv_ior hx hb hd kk
  | 5, _ => exact lv_ixor hx hb hd kk
  | 6, _ => exact lv_ishl hx hb hd kk
  | 7, _ => exact lv_ishr hx hb hd kk
  | 8, _ => exact lv_iushr hx hb hd rfl kk
theorem so_12 (cx : am_cx p s m args c D base xa cA x cc nL n0 own) {o : Nat} {a b : Int} (ho : o ≤ 1) (hg : am_dc cc pc nx (if o = 0 then .idiv else .irem) 1) (hne : ¬ b = 0) (hk : am_at p l e R s m args below meth c Q D base xa cA x nL n0 s0 nx L (.inl (am_d4 o a b) :: S) h) : am_at p l e R s m args below meth c Q D base xa cA x nL n0 s0 pc L (.inl b :: .inl a :: S) h := by
  obtain ⟨hx, hb, hml, hown, hts, hK, hbs, hex⟩ := cx
  obtain ⟨hd, rfl⟩ := hg
  refine am_pureS (fun q => am_oki (am_r4_to _) (am_okt (am_okt q))) (fun q H locs ls cells slots kk => ?_) hk
  have hne : ¬ Int32.ofInt b = 0 := fun z => hne ((am_eq4 (am_okd q) (b := 0) ⟨by omega, by omega⟩).mp z)
  match o, ho with
  | 0, _ =>
    have kk : W p l e R s m args below meth c H locs cells slots Q (F0 m (pc + 1) ls (.int (Int32.ofInt a / Int32.ofInt b) :: S.map (am_cv (am_ad base xa)))) := by
      rw [← am_of_toInt (Int32.ofInt a / Int32.ofInt b)]
      exact kk
    exact lv_idiv hx hb hd hne kk
  | 1, _ =>
    have kk : W p l e R s m args below meth c H locs cells slots Q (F0 m (pc + 1) ls (.int (Int32.ofInt a - Int32.ofInt a / Int32.ofInt b * Int32.ofInt b) :: S.map (am_cv (am_ad base xa)))) := by
      rw [← am_of_toInt (Int32.ofInt a - Int32.ofInt a / Int32.ofInt b * Int32.ofInt b)]
      exact kk
    exact lv_irem hx hb hd hne kk
theorem so_14 (cx : am_cx p s m args c D base xa cA x cc nL n0 own) {a : Int} (hg : am_dc cc pc nx .ineg 1) (hk : am_at p l e R s m args below meth c Q D base xa cA x nL n0 s0 nx L (.inl (am_b2 1 0 a) :: S) h) : am_at p l e R s m args below meth c Q D base xa cA x nL n0 s0 pc L (.inl a :: S) h := by
  obtain ⟨hx, hb, hml, hown, hts, hK, hbs, hex⟩ := cx
  obtain ⟨hd, rfl⟩ := hg
  refine am_pureS (fun q => am_oki (am_r4_to _) (am_okt q)) (fun q H locs ls cells slots kk => lv_ineg hx hb hd ?_) hk
  have e1 : -(Int32.ofInt a) = Int32.ofInt (am_b2 1 0 a) := by
    show _ = Int32.ofInt (Int32.ofInt 0 - Int32.ofInt a).toInt
    rw [am_of_toInt]
    show _ = (0 : Int32) - Int32.ofInt a
    rw [Int32.zero_sub]
  rw [e1]
  exact kk
theorem so_15 (cx : am_cx p s m args c D base xa cA x cc nL n0 own) {o : Nat} {a b : Int} (ho : o ≤ 2) (hg : am_dc cc pc nx (am_lb o) 1) (hk : am_at p l e R s m args below meth c Q D base xa cA x nL n0 s0 nx L (.inr (.inl (am_b6 o a b)) :: S) h) : am_at p l e R s m args below meth c Q D base xa cA x nL n0 s0 pc L (.inr (.inl b) :: .inr (.inl a) :: S) h := by
  obtain ⟨hx, hb, hml, hown, hts, hK, hbs, hex⟩ := cx
  obtain ⟨hd, rfl⟩ := hg
  refine am_pureS (fun q => am_okj (am_r8_to _) (am_okt (am_okt q))) (fun q H locs ls cells slots kk => ?_) hk
  have kk : W p l e R s m args below meth c H locs cells slots Q (F0 m (pc + 1) ls (.long (am_b8 o (Int64.ofInt a) (Int64.ofInt b)) :: S.map (am_cv (am_ad base xa)))) := by
    rw [← am_of_toInt8 (am_b8 o (Int64.ofInt a) (Int64.ofInt b))]
    exact kk
  match o, ho with
  | 0, _ => exact lv_ladd hx hb hd kk
  | 1, _ => exact lv_lsub hx hb hd kk
  | 2, _ => exact lv_lmul hx hb hd kk
theorem so_16 (cx : am_cx p s m args c D base xa cA x cc nL n0 own) {o : Nat} {a b : Int} (ho : o ≤ 1) (hg : am_dc cc pc nx (if o = 0 then .ldiv else .lrem) 1) (hne : ¬ b = 0) (hk : am_at p l e R s m args below meth c Q D base xa cA x nL n0 s0 nx L (.inr (.inl (am_d8 o a b)) :: S) h) : am_at p l e R s m args below meth c Q D base xa cA x nL n0 s0 pc L (.inr (.inl b) :: .inr (.inl a) :: S) h := by
  obtain ⟨hx, hb, hml, hown, hts, hK, hbs, hex⟩ := cx
  obtain ⟨hd, rfl⟩ := hg
  refine am_pureS (fun q => am_okj (am_r8_to _) (am_okt (am_okt q))) (fun q H locs ls cells slots kk => ?_) hk
  have hne : ¬ Int64.ofInt b = 0 := fun z => hne ((am_eq8 (am_okd q) (b := 0) ⟨by omega, by omega⟩).mp z)
  match o, ho with
  | 0, _ =>
    have kk : W p l e R s m args below meth c H locs cells slots Q (F0 m (pc + 1) ls (.long (Int64.ofInt a / Int64.ofInt b) :: S.map (am_cv (am_ad base xa)))) := by
      rw [← am_of_toInt8 (Int64.ofInt a / Int64.ofInt b)]
      exact kk
    exact lv_ldiv hx hb hd hne kk
  | 1, _ =>
    have kk : W p l e R s m args below meth c H locs cells slots Q (F0 m (pc + 1) ls (.long (Int64.ofInt a - Int64.ofInt a / Int64.ofInt b * Int64.ofInt b) :: S.map (am_cv (am_ad base xa)))) := by
      rw [← am_of_toInt8 (Int64.ofInt a - Int64.ofInt a / Int64.ofInt b * Int64.ofInt b)]
      exact kk
    exact lv_lrem hx hb hd hne kk
theorem am_cm_r (a b : Int) : am_r4 (am_cm a b) := by
  unfold am_cm am_r4
  split
  · omega
  · split <;> omega
theorem so_18 (cx : am_cx p s m args c D base xa cA x cc nL n0 own) {a b : Int} (hg : am_dc cc pc nx .lcmp 1) (hk : am_at p l e R s m args below meth c Q D base xa cA x nL n0 s0 nx L (.inl (am_cm a b) :: S) h) : am_at p l e R s m args below meth c Q D base xa cA x nL n0 s0 pc L (.inr (.inl b) :: .inr (.inl a) :: S) h := by
  obtain ⟨hx, hb, hml, hown, hts, hK, hbs, hex⟩ := cx
  obtain ⟨hd, rfl⟩ := hg
  refine am_pureS (fun q => am_oki (am_cm_r a b) (am_okt (am_okt q))) (fun q H locs ls cells slots kk => W.lcmp hx hb hd ?_) hk
  have e1 : lg_cmp (Int64.ofInt a) (Int64.ofInt b) = Int32.ofInt (am_cm a b) := by
    unfold lg_cmp am_cm
    simp only [gt_iff_lt, am_lt8 (am_okd q) (am_okd (am_okt q)), am_eq8 (am_okd (am_okt q)) (am_okd q)]
    split
    · rfl
    · split <;> rfl
  rw [e1]
  exact kk
theorem so_19 (cx : am_cx p s m args c D base xa cA x cc nL n0 own) {a : Int} (hg : am_dc cc pc nx .i2l 1) (hk : am_at p l e R s m args below meth c Q D base xa cA x nL n0 s0 nx L (.inr (.inl a) :: S) h) : am_at p l e R s m args below meth c Q D base xa cA x nL n0 s0 pc L (.inl a :: S) h := by
  obtain ⟨hx, hb, hml, hown, hts, hK, hbs, hex⟩ := cx
  obtain ⟨hd, rfl⟩ := hg
  refine am_pureS (fun q => am_okj (am_r4_8 (am_okd q)) (am_okt q)) (fun q H locs ls cells slots kk => lv_i2l hx hb hd ?_ kk) hk
  have ha : am_r4 a := am_okd q
  apply Int64.toInt_inj.mp
  rw [Int32.toInt_toInt64, am_of4 ha, am_of8 (am_r4_8 ha)]
theorem so_20 (cx : am_cx p s m args c D base xa cA x cc nL n0 own) {a : Int} (hg : am_dc cc pc nx .l2i 1) (hk : am_at p l e R s m args below meth c Q D base xa cA x nL n0 s0 nx L (.inl (Int32.ofInt a).toInt :: S) h) : am_at p l e R s m args below meth c Q D base xa cA x nL n0 s0 pc L (.inr (.inl a) :: S) h := by
  obtain ⟨hx, hb, hml, hown, hts, hK, hbs, hex⟩ := cx
  obtain ⟨hd, rfl⟩ := hg
  refine am_pureS (fun q => am_oki (am_r4_to _) (am_okt q)) (fun q H locs ls cells slots kk => lv_l2i hx hb hd ?_ kk) hk
  rw [am_of_toInt]
  apply Int32.toInt_inj.mp
  rw [Int64.toInt_toInt32, Int32.toInt_ofInt, Int64.toInt_ofInt]
  exact Int.bmod_bmod_of_dvd (by decide)
theorem so_21 (cx : am_cx p s m args c D base xa cA x cc nL n0 own) {a : Int} (hg : am_dc cc pc nx .i2b 1) (hk : am_at p l e R s m args below meth c Q D base xa cA x nL n0 s0 nx L (.inl (am_by a) :: S) h) : am_at p l e R s m args below meth c Q D base xa cA x nL n0 s0 pc L (.inl a :: S) h := by
  obtain ⟨hx, hb, hml, hown, hts, hK, hbs, hex⟩ := cx
  obtain ⟨hd, rfl⟩ := hg
  refine am_pureS (fun q => am_oki (am_r4_to _) (am_okt q)) (fun q H locs ls cells slots kk => lv_i2b hx hb hd ?_ kk) hk
  rw [am_of_toInt]
theorem so_22 (cx : am_cx p s m args c D base xa cA x cc nL n0 own) {v : am_V} (hg : am_dc cc pc nx .dup 1) (hc : am_ct v = 1) (hk : am_at p l e R s m args below meth c Q D base xa cA x nL n0 s0 nx L (v :: v :: S) h) : am_at p l e R s m args below meth c Q D base xa cA x nL n0 s0 pc L (v :: S) h := by
  obtain ⟨hx, hb, hml, hown, hts, hK, hbs, hex⟩ := cx
  obtain ⟨hd, rfl⟩ := hg
  exact am_pureS (fun q => am_okc (am_okd q) q) (fun q H locs ls cells slots kk => lv_dup hx hb hd (by rw [am_ct_cv]; exact hc) kk) hk
theorem so_23 (cx : am_cx p s m args c D base xa cA x cc nL n0 own) {v w : am_V} (hg : am_dc cc pc nx .dup2 1) (hc : am_ct v = 1) (hc2 : am_ct w = 1) (hk : am_at p l e R s m args below meth c Q D base xa cA x nL n0 s0 nx L (v :: w :: v :: w :: S) h) : am_at p l e R s m args below meth c Q D base xa cA x nL n0 s0 pc L (v :: w :: S) h := by
  obtain ⟨hx, hb, hml, hown, hts, hK, hbs, hex⟩ := cx
  obtain ⟨hd, rfl⟩ := hg
  exact am_pureS (fun q => am_okc (am_okd q) (am_okc (am_okd (am_okt q)) q)) (fun q H locs ls cells slots kk => lv_dup2_11 hx hb hd (by rw [am_ct_cv]; exact hc) (by rw [am_ct_cv]; exact hc2) kk) hk
theorem so_24 (cx : am_cx p s m args c D base xa cA x cc nL n0 own) {v : am_V} (hg : am_dc cc pc nx .pop 1) (hc : am_ct v = 1) (hk : am_at p l e R s m args below meth c Q D base xa cA x nL n0 s0 nx L S h) : am_at p l e R s m args below meth c Q D base xa cA x nL n0 s0 pc L (v :: S) h := by
  obtain ⟨hx, hb, hml, hown, hts, hK, hbs, hex⟩ := cx
  obtain ⟨hd, rfl⟩ := hg
  exact am_pureS (fun q => am_okt q) (fun q H locs ls cells slots kk => lv_pop hx hb hd (by rw [am_ct_cv]; exact hc) kk) hk
theorem so_25 (cx : am_cx p s m args c D base xa cA x cc nL n0 own) {o t f : Nat} {a : Int} (hg : am_jc cc pc t f (.ifCond (am_cn o))) (hk : am_at p l e R s m args below meth c Q D base xa cA x nL n0 s0 (if am_cd o a 0 then t else f) L S h) : am_at p l e R s m args below meth c Q D base xa cA x nL n0 s0 pc L (.inl a :: S) h := by
  obtain ⟨hx, hb, hml, hown, hts, hK, hbs, hex⟩ := cx
  obtain ⟨hd, rfl⟩ := hg
  refine am_pureS am_okt (fun q H locs ls cells slots kk => ?_) hk
  have ht : (pc : Int) + ((t : Int) - pc) = (t : Int) := by omega
  have ha : am_r4 a := am_okd q
  have h0 : am_r4 0 := ⟨by omega, by omega⟩
  have z0 : (0 : Int32) = Int32.ofInt 0 := rfl
  match o, hd with
  | 0, hd => exact lv_if_eq hx hb hd ht (fun g => by rw [if_pos (c := am_cd 0 a 0 = true) (decide_eq_true ((am_eq4 ha h0).mp g))] at kk; exact kk) (fun g => by rw [if_neg (c := am_cd 0 a 0 = true) (by rw [Bool.not_eq_true]; exact decide_eq_false (fun z => g (by rw [z]; rfl)))] at kk; exact kk)
  | 1, hd => exact lv_if_ne hx hb hd ht (fun g => by rw [if_pos (c := am_cd 1 a 0 = true) (decide_eq_true (fun z => g (by rw [z]; rfl)))] at kk; exact kk) (fun g => by rw [if_neg (c := am_cd 1 a 0 = true) (by rw [Bool.not_eq_true]; exact decide_eq_false (fun z => z ((am_eq4 ha h0).mp g)))] at kk; exact kk)
  | 2, hd => exact lv_if_lt hx hb hd ht (fun g => by rw [if_pos (c := am_cd 2 a 0 = true) (decide_eq_true ((am_lt4 ha h0).mp g))] at kk; exact kk) (fun g => by rw [if_neg (c := am_cd 2 a 0 = true) (by rw [Bool.not_eq_true]; exact decide_eq_false (fun z => g ((am_lt4 ha h0).mpr z)))] at kk; exact kk)
  | 3, hd => exact lv_if_ge hx hb hd ht (fun g => by rw [if_pos (c := am_cd 3 a 0 = true) (decide_eq_true ((am_le4 h0 ha).mp g))] at kk; exact kk) (fun g => by rw [if_neg (c := am_cd 3 a 0 = true) (by rw [Bool.not_eq_true]; exact decide_eq_false (fun z => g ((am_le4 h0 ha).mpr z)))] at kk; exact kk)
  | 4, hd => exact lv_if_gt hx hb hd ht (fun g => by rw [if_pos (c := am_cd 4 a 0 = true) (decide_eq_true ((am_lt4 h0 ha).mp g))] at kk; exact kk) (fun g => by rw [if_neg (c := am_cd 4 a 0 = true) (by rw [Bool.not_eq_true]; exact decide_eq_false (fun z => g ((am_lt4 h0 ha).mpr z)))] at kk; exact kk)
  | n + 5, hd => exact lv_if_le hx hb hd ht (fun g => by rw [if_pos (c := am_cd (n + 5) a 0 = true) (decide_eq_true ((am_le4 ha h0).mp g))] at kk; exact kk) (fun g => by rw [if_neg (c := am_cd (n + 5) a 0 = true) (by rw [Bool.not_eq_true]; exact decide_eq_false (fun z => g ((am_le4 ha h0).mpr z)))] at kk; exact kk)
theorem so_26 (cx : am_cx p s m args c D base xa cA x cc nL n0 own) {o t f : Nat} {a b : Int} (hg : am_jc cc pc t f (.if_icmp (am_cn o))) (hk : am_at p l e R s m args below meth c Q D base xa cA x nL n0 s0 (if am_cd o a b then t else f) L S h) : am_at p l e R s m args below meth c Q D base xa cA x nL n0 s0 pc L (.inl b :: .inl a :: S) h := by
  obtain ⟨hx, hb, hml, hown, hts, hK, hbs, hex⟩ := cx
  obtain ⟨hd, rfl⟩ := hg
  refine am_pureS (fun q => am_okt (am_okt q)) (fun q H locs ls cells slots kk => ?_) hk
  have ht : (pc : Int) + ((t : Int) - pc) = (t : Int) := by omega
  have h0 : am_r4 b := am_okd q
  have ha : am_r4 a := am_okd (am_okt q)
  match o, hd with
  | 0, hd => exact lv_icmp_eq hx hb hd ht (fun g => by rw [if_pos (c := am_cd 0 a b = true) (decide_eq_true ((am_eq4 ha h0).mp g))] at kk; exact kk) (fun g => by rw [if_neg (c := am_cd 0 a b = true) (by rw [Bool.not_eq_true]; exact decide_eq_false (fun z => g (by rw [z])))] at kk; exact kk)
  | 1, hd => exact lv_icmp_ne hx hb hd ht (fun g => by rw [if_pos (c := am_cd 1 a b = true) (decide_eq_true (fun z => g (by rw [z])))] at kk; exact kk) (fun g => by rw [if_neg (c := am_cd 1 a b = true) (by rw [Bool.not_eq_true]; exact decide_eq_false (fun z => z ((am_eq4 ha h0).mp g)))] at kk; exact kk)
  | 2, hd => exact lv_icmp_lt hx hb hd ht (fun g => by rw [if_pos (c := am_cd 2 a b = true) (decide_eq_true ((am_lt4 ha h0).mp g))] at kk; exact kk) (fun g => by rw [if_neg (c := am_cd 2 a b = true) (by rw [Bool.not_eq_true]; exact decide_eq_false (fun z => g ((am_lt4 ha h0).mpr z)))] at kk; exact kk)
  | 3, hd => exact lv_icmp_ge hx hb hd ht (fun g => by rw [if_pos (c := am_cd 3 a b = true) (decide_eq_true ((am_le4 h0 ha).mp g))] at kk; exact kk) (fun g => by rw [if_neg (c := am_cd 3 a b = true) (by rw [Bool.not_eq_true]; exact decide_eq_false (fun z => g ((am_le4 h0 ha).mpr z)))] at kk; exact kk)
  | 4, hd => exact lv_icmp_gt hx hb hd ht (fun g => by rw [if_pos (c := am_cd 4 a b = true) (decide_eq_true ((am_lt4 h0 ha).mp g))] at kk; exact kk) (fun g => by rw [if_neg (c := am_cd 4 a b = true) (by rw [Bool.not_eq_true]; exact decide_eq_false (fun z => g ((am_lt4 h0 ha).mpr z)))] at kk; exact kk)
  | n + 5, hd => exact lv_icmp_le hx hb hd ht (fun g => by rw [if_pos (c := am_cd (n + 5) a b = true) (decide_eq_true ((am_le4 ha h0).mp g))] at kk; exact kk) (fun g => by rw [if_neg (c := am_cd (n + 5) a b = true) (by rw [Bool.not_eq_true]; exact decide_eq_false (fun z => g ((am_le4 ha h0).mpr z)))] at kk; exact kk)
theorem so_27 (cx : am_cx p s m args c D base xa cA x cc nL n0 own) {t f : Nat} {q : Option Nat} (hg : am_jc cc pc t f .ifnonnull) (hk : am_at p l e R s m args below meth c Q D base xa cA x nL n0 s0 (if q.isSome then t else f) L S h) : am_at p l e R s m args below meth c Q D base xa cA x nL n0 s0 pc L (.inr (.inr q) :: S) h := by
  obtain ⟨hx, hb, hml, hown, hts, hK, hbs, hex⟩ := cx
  obtain ⟨hd, rfl⟩ := hg
  refine am_pureS am_okt (fun _ H locs ls cells slots kk => ?_) hk
  have ht : (pc : Int) + ((t : Int) - pc) = (t : Int) := by omega
  match q with
  | none => exact lv_ifnonnullN hx hb hd kk
  | some y => exact lv_ifnonnull hx hb hd ht kk
theorem so_28 (cx : am_cx p s m args c D base xa cA x cc nL n0 own) {t : Nat} (hg : decode cc pc = .ok (.goto ((t : Int) - pc), 3)) (hk : am_at p l e R s m args below meth c Q D base xa cA x nL n0 s0 t L S h) : am_at p l e R s m args below meth c Q D base xa cA x nL n0 s0 pc L S h := by
  obtain ⟨hx, hb, hml, hown, hts, hK, hbs, hex⟩ := cx
  exact am_pureS id (fun _ H locs ls cells slots kk => lv_goto hx hb hg (by omega) kk) hk
theorem so_29 (cx : am_cx p s m args c D base xa cA x cc nL n0 own) {lo a : Int} {d len : Nat} {ts : List Nat} (hg : decode cc pc = .ok (.tableswitch ((d : Int) - pc) lo (lo + (ts.length : Int) - 1) (ts.map (fun t : Nat => (t : Int) - pc)).toArray, len)) (hk : am_at p l e R s m args below meth c Q D base xa cA x nL n0 s0 (if a < lo ∨ lo + (ts.length : Int) ≤ a then d else ts.getD (a - lo).toNat 0) L S h) : am_at p l e R s m args below meth c Q D base xa cA x nL n0 s0 pc L (.inl a :: S) h := by
  obtain ⟨hx, hb, hml, hown, hts, hK, hbs, hex⟩ := cx
  refine am_pureS am_okt (fun q H locs ls cells slots kk => ?_) hk
  have ha : am_r4 a := am_okd q
  by_cases g : a < lo ∨ lo + (ts.length : Int) ≤ a
  · rw [if_pos g] at kk
    refine lv_tableOut hx hb hg ?_ (by omega) kk
    rw [am_of4 ha]
    omega
  · rw [if_neg g] at kk
    have hi : (a - lo).toNat < ts.length := by omega
    refine lv_tableIn (off := ((ts.getD (a - lo).toNat 0 : Nat) : Int) - pc) hx hb hg ?_ ?_ ?_ (by omega) kk
    · rw [am_of4 ha]; omega
    · rw [am_of4 ha]; omega
    · rw [am_of4 ha]
      simp [hi]
end AMB
