/-! ===== the library's own text methods ===== -/
theorem am_sb_ok : ∀ i, i < 18 → (am_sb.getD i []).length = am_sl.getD i 0 ∧ am_sl.getD i 0 ≤ 100 ∧ ∀ k, k < am_sl.getD i 0 → (((am_sb.getD i []).getD k 0 &&& 255).toUInt32 % 65536).toInt32 = (am_sb.getD i []).getD k 0 ∧ 0 ≤ ((am_sb.getD i []).getD k 0).toInt ∧ ((am_sb.getD i []).getD k 0).toInt ≤ 127 := by decide +kernel
section AMT
variable {p : Program} {l : Launch} {e : Env} {R : Room} {s : State} {m : MethodId} {args : Array Value} {below : List Frame} {meth : Method} {c : Code} {Q : State → Prop} {D : va_G} {base : Nat} {xa : Nat → Nat} {cA : Nat → ClassId} {x : am_H} {nL n0 s0 : Nat} {cc : ByteArray} {own : String}
variable {pc : Nat} {L : am_L} {S : List am_V} {h : am_H}
theorem st_val (cx : am_cx p s m args c D base xa cA x cc nL n0 own) (hX : am_X base xa x s) {i k : Nat} (hi : i < 18) (hg : decode cc pc = .ok (.getfield k, 3)) (hl : Cond.fieldLink own k "java/lang/String" "value" "[B" ∈ am_T) (hk : am_at p l e R s m args below meth c Q D base xa cA x nL n0 s0 (pc + 3) L (.inr (.inr (some (24 + i))) :: S) h) : am_at p l e R s m args below meth c Q D base xa cA x nL n0 s0 pc L (.inr (.inr (some (3 + i))) :: S) h := by
  obtain ⟨hx, hb, hml, hown, hts, hK, hbs, hex⟩ := cx
  refine am_read (fun _ o _ => am_okr (am_okt o)) (fun o2 o3 H locs ls cells slots hP hS kk => ?_) hk
  show W p l e R s m args below meth c H locs cells slots Q (F0 m pc ls (.ref (am_ad base xa (3 + i)) :: S.map (am_cv (am_ad base xa))))
  rw [am_ad_x (by omega)]
  refine vk_getf hx hb ((hX.2.2.2.2.2.2.2.2.1).1 i hi).2.2.1 hS hown (hts _ hl) (fun _ z => z) hg ?_
  show W p l e R s m args below meth c H locs cells slots Q (F0 m (pc + 3) ls (.ref (xa (24 + i)) :: S.map (am_cv (am_ad base xa))))
  rw [← am_ad_x (base := base) (xa := xa) (q := 24 + i) (by omega)]
  exact kk
theorem st_cod (cx : am_cx p s m args c D base xa cA x cc nL n0 own) (hX : am_X base xa x s) {i k : Nat} (hi : i < 18) (hg : decode cc pc = .ok (.getfield k, 3)) (hl : Cond.fieldLink own k "java/lang/String" "coder" "B" ∈ am_T) (hk : am_at p l e R s m args below meth c Q D base xa cA x nL n0 s0 (pc + 3) L (.inl 0 :: S) h) : am_at p l e R s m args below meth c Q D base xa cA x nL n0 s0 pc L (.inr (.inr (some (3 + i))) :: S) h := by
  obtain ⟨hx, hb, hml, hown, hts, hK, hbs, hex⟩ := cx
  refine am_read (fun _ o _ => am_oki ⟨by omega, by omega⟩ (am_okt o)) (fun o2 o3 H locs ls cells slots hP hS kk => ?_) hk
  show W p l e R s m args below meth c H locs cells slots Q (F0 m pc ls (.ref (am_ad base xa (3 + i)) :: S.map (am_cv (am_ad base xa))))
  rw [am_ad_x (by omega)]
  exact vk_getf hx hb ((hX.2.2.2.2.2.2.2.2.1).1 i hi).2.1 hS hown (hts _ hl) (fun _ z => z) hg kk
theorem st_len (cx : am_cx p s m args c D base xa cA x cc nL n0 own) (hX : am_X base xa x s) {i : Nat} (hi : i < 18) (hg : decode cc pc = .ok (.arraylength, 1)) (hk : am_at p l e R s m args below meth c Q D base xa cA x nL n0 s0 (pc + 1) L (.inl ((am_sl.getD i 0 : Nat) : Int) :: S) h) : am_at p l e R s m args below meth c Q D base xa cA x nL n0 s0 pc L (.inr (.inr (some (24 + i))) :: S) h := by
  obtain ⟨hx, hb, hml, hown, hts, hK, hbs, hex⟩ := cx
  have h1 := (am_sb_ok i hi).2.1
  refine am_read (fun _ o _ => am_oki ⟨by omega, by omega⟩ (am_okt o)) (fun o2 o3 H locs ls cells slots hP hS kk => ?_) hk
  show W p l e R s m args below meth c H locs cells slots Q (F0 m pc ls (.ref (am_ad base xa (24 + i)) :: S.map (am_cv (am_ad base xa))))
  rw [am_ad_x (by omega)]
  exact va_tlen hx hb ((hX.2.2.2.2.2.2.2.2.1).1 i hi).2.2.2 hS (am_ofNat _) hg kk
theorem st_bal (cx : am_cx p s m args c D base xa cA x cc nL n0 own) (hX : am_X base xa x s) {i : Nat} {k : Int} (hi : i < 18) (h0 : 0 ≤ k) (h1 : k < ((am_sl.getD i 0 : Nat) : Int)) (hg : decode cc pc = .ok (.baload, 1)) (hk : am_at p l e R s m args below meth c Q D base xa cA x nL n0 s0 (pc + 1) L (.inl ((am_sb.getD i []).getD k.toNat 0).toInt :: S) h) : am_at p l e R s m args below meth c Q D base xa cA x nL n0 s0 pc L (.inl k :: .inr (.inr (some (24 + i))) :: S) h := by
  obtain ⟨hx, hb, hml, hown, hts, hK, hbs, hex⟩ := cx
  refine am_read (fun _ o _ => am_oki (am_r4_to _) (am_okt (am_okt o))) (fun o2 o3 H locs ls cells slots hP hS kk => ?_) hk
  have hr : am_r4 k := am_okd o2
  show W p l e R s m args below meth c H locs cells slots Q (F0 m pc ls (.int (Int32.ofInt k) :: .ref (am_ad base xa (24 + i)) :: S.map (am_cv (am_ad base xa))))
  rw [am_ad_x (by omega)]
  refine va_tb hx hb ((hX.2.2.2.2.2.2.2.2.1).1 i hi).2.2.2 hS (am_in hr h0 h1) (v := .int ((am_sb.getD i []).getD k.toNat 0)) ?_ hg ?_
  · rw [am_clamp hr]
  · rw [← am_of_toInt ((am_sb.getD i []).getD k.toNat 0)]
    exact kk
theorem st_com (cx : am_cx p s m args c D base xa cA x cc nL n0 own) (hX : am_X base xa x s) {k : Nat} (hg : decode cc pc = .ok (.getstatic k, 3)) (hl : Cond.fieldLink own k "java/lang/String" "COMPACT_STRINGS" "Z" ∈ am_T) (hk : am_at p l e R s m args below meth c Q D base xa cA x nL n0 s0 (pc + 3) L (.inl 1 :: S) h) : am_at p l e R s m args below meth c Q D base xa cA x nL n0 s0 pc L S h := by
  obtain ⟨hx, hb, hml, hown, hts, hK, hbs, hex⟩ := cx
  exact am_read (fun _ o _ => am_oki ⟨by omega, by omega⟩ o) (fun o2 o3 H locs ls cells slots hP hS kk => va_gets hx hb hX.2.2.2.2.2.2.2.2.2.1 hS hown (hts _ hl) (fun _ z => z) hg kk) hk
theorem st_fmt (cx : am_cx p s m args c D base xa cA x cc nL n0 own) (hX : am_X base xa x s) {k : Nat} (hg : decode cc pc = .ok (.getstatic k, 3)) (hl : Cond.fieldLink own k "jdk/internal/util/Preconditions" "SIOOBE_FORMATTER" "Ljava/util/function/BiFunction;" ∈ am_T) (hk : ∀ v : Option Nat, v = none ∨ v = some 63 → am_at p l e R s m args below meth c Q D base xa cA x nL n0 s0 (pc + 3) L (.inr (.inr v) :: S) h) : am_at p l e R s m args below meth c Q D base xa cA x nL n0 s0 pc L S h := by
  obtain ⟨hx, hb, hml, hown, hts, hK, hbs, hex⟩ := cx
  rcases hX.2.2.2.2.2.2.2.2.2.2 with z | z
  · exact am_read (fun _ o _ => am_okr o) (fun o2 o3 H locs ls cells slots hP hS kk => va_gets hx hb z hS hown (hts _ hl) (fun _ z => z) hg kk) (hk none (Or.inl rfl))
  · refine am_read (fun _ o _ => am_okr o) (fun o2 o3 H locs ls cells slots hP hS kk => va_gets hx hb z hS hown (hts _ hl) (fun _ z => z) hg ?_) (hk (some 63) (Or.inr rfl))
    rw [← am_ad_x (base := base) (xa := xa) (q := 63) (by omega)]
    exact kk
theorem st_i2c (cx : am_cx p s m args c D base xa cA x cc nL n0 own) {a r : Int} (hr : am_r4 r) (hv : ((Int32.ofInt a).toUInt32 % 65536).toInt32 = Int32.ofInt r) (hg : decode cc pc = .ok (.i2c, 1)) (hk : am_at p l e R s m args below meth c Q D base xa cA x nL n0 s0 (pc + 1) L (.inl r :: S) h) : am_at p l e R s m args below meth c Q D base xa cA x nL n0 s0 pc L (.inl a :: S) h := by
  obtain ⟨hx, hb, hml, hown, hts, hK, hbs, hex⟩ := cx
  exact am_pureS (fun q => am_oki hr (am_okt q)) (fun q H locs ls cells slots kk => lv_i2c hx hb hg hv kk) hk
end AMT
section AMU
variable {p : Program} {l : Launch} {e : Env} {R : Room} {s : State} {m : MethodId} {args : Array Value} {below : List Frame} {meth : Method} {c : Code} {D : va_G} {base : Nat} {xa : Nat → Nat} {cA : Nat → ClassId} {x : am_H} {nL n0 s0 : Nat} {cc : ByteArray} {own : String}
variable {pc : Nat} {L : am_L} {h : am_H}
theorem st_ret (cx : am_cx p s m args c D base xa cA x cc nL n0 own) {ty : FieldType} (hr : meth.sig.returnType = some ty) (hlk : meth.locks = false) {v : Int} (hv : narrow ty (.int (Int32.ofInt v)) = .int (Int32.ofInt v)) (hg : decode cc pc = .ok (.ireturn, 1)) : am_at p l e R s m args below meth c (MQ below (am_Qc D base xa cA (some (.inl v)) h) args s (h.1.1 - n0) (h.1.2.1 - s0) (fun q => base ≤ q)) D base xa cA x nL n0 s0 pc L [.inl v] h := by
  obtain ⟨hx, hb, hml, hown, hts, hK, hbs, hex⟩ := cx
  exact am_end hbs (fun _ H locs ls cells slots hq hf => W.zret hx hb hr hv hq hf hg hlk)
end AMU
section AMJ
variable {l : Launch} {D : va_G} {base : Nat} {xa : Nat → Nat} {cA : Nat → ClassId} {x h : am_H}
theorem st_r1 (q : Nat) : am_okS [.inr (.inr (some q))] := am_okr am_ok0
theorem jm_cod (hex : am_ext x) (oh : am_okh x h) {i : Nat} (hi : i < 18) (d : Nat) : am_Met l D base xa cA x d (Cond.code yJ0_coder_7d493 cJ0_coder_7d493 1 (some .byte) :: am_T) yJ0_coder_7d493 [.inr (.inr (some (3 + i)))] h (some (.inl 0)) h := by
  refine am_Met_of (by decide +kernel) (by show (1 : Nat) ≤ 1; omega) hex (st_r1 _) oh ?_
  intro p e s m args below meth c cx hX hr hlk hnm
  refine st_com cx hX dJ0_coder_7d493_0 am_jf_com ?_
  refine so_25 (o := 0) (t := 13) (f := 6) cx ⟨dJ0_coder_7d493_3, rfl⟩ ?_
  refine so_6 (k := 0) (nx := 7) cx (Or.inr ⟨0, rfl, dJ0_coder_7d493_6, rfl⟩) rfl ?_
  refine st_cod cx hX hi dJ0_coder_7d493_7 am_jf_cod ?_
  refine so_28 (t := 14) cx dJ0_coder_7d493_10 ?_
  exact st_ret cx hr hlk (by decide +kernel) dJ0_coder_7d493_14
theorem jm_lat (hex : am_ext x) (oh : am_okh x h) {i : Nat} (hi : i < 18) (d : Nat) : am_Met l D base xa cA x d (Cond.code yJ0_isLatin1_aae02 cJ0_isLatin1_aae02 1 (some .boolean) :: am_T) yJ0_isLatin1_aae02 [.inr (.inr (some (3 + i)))] h (some (.inl 1)) h := by
  refine am_Met_of (by decide +kernel) (by show (1 : Nat) ≤ 1; omega) hex (st_r1 _) oh ?_
  intro p e s m args below meth c cx hX hr hlk hnm
  refine st_com cx hX dJ0_isLatin1_aae02_0 am_jf_com ?_
  refine so_25 (o := 0) (t := 17) (f := 6) cx ⟨dJ0_isLatin1_aae02_3, rfl⟩ ?_
  refine so_6 (k := 0) (nx := 7) cx (Or.inr ⟨0, rfl, dJ0_isLatin1_aae02_6, rfl⟩) rfl ?_
  refine st_cod cx hX hi dJ0_isLatin1_aae02_7 am_jf_cod ?_
  refine so_25 (o := 1) (t := 17) (f := 13) cx ⟨dJ0_isLatin1_aae02_10, rfl⟩ ?_
  refine so_0 (v := 1) (nx := 14) (ns := []) cx ⟨by omega, by omega⟩ (Or.inl ⟨dJ0_isLatin1_aae02_13, rfl⟩) ?_
  refine so_28 (t := 18) cx dJ0_isLatin1_aae02_14 ?_
  exact st_ret cx hr hlk (by decide +kernel) dJ0_isLatin1_aae02_18
theorem jm_len (hex : am_ext x) (oh : am_okh x h) {i d : Nat} (hi : i < 18) (hd : 1 ≤ d) : am_Met l D base xa cA x d (Cond.code yJ0_length_8abf5 cJ0_length_8abf5 1 (some .int) :: am_T) yJ0_length_8abf5 [.inr (.inr (some (3 + i)))] h (some (.inl ((am_sl.getD i 0 : Nat) : Int))) h := by
  refine am_Met_of (by decide +kernel) (by show (1 : Nat) ≤ 1; omega) hex (st_r1 _) oh ?_
  intro p e s m args below meth c cx hX hr hlk hnm
  refine so_6 (k := 0) (nx := 1) cx (Or.inr ⟨0, rfl, dJ0_length_8abf5_0, rfl⟩) rfl ?_
  refine st_val cx hX hi dJ0_length_8abf5_1 am_jf_val ?_
  refine st_len cx hX hi dJ0_length_8abf5_4 ?_
  refine so_6 (k := 0) (nx := 6) cx (Or.inr ⟨0, rfl, dJ0_length_8abf5_5, rfl⟩) rfl ?_
  refine so_46s (np := 0) (as := []) (nx := 9) (v := some (.inl 0)) cx hX ⟨dJ0_length_8abf5_6, rfl⟩ am_js_cod am_jl_len_cod am_jm_cod am_jt_cod (d := 0) ⟨by show 0 + 1 ≤ d; omega, by show 64 * (0 + 1) ≤ 64 * d; omega⟩ ⟨Nat.le_of_ble_eq_true rfl, Nat.le_of_ble_eq_true rfl⟩ rfl ⟨by omega, by omega⟩ (jm_cod hex oh hi 0) (fun _ z hz => by cases hz; exact ⟨by omega, by omega⟩) (Nat.le_add_right _ _) (Nat.le_add_right _ _) ?_
  refine so_11 (o := 7) (nx := 10) cx (by omega) ⟨dJ0_length_8abf5_9, rfl⟩ ?_
  have e1 : am_b2 7 ((am_sl.getD i 0 : Nat) : Int) 0 = ((am_sl.getD i 0 : Nat) : Int) := (by decide +kernel : ∀ i, i < 18 → am_b2 7 ((am_sl.getD i 0 : Nat) : Int) 0 = ((am_sl.getD i 0 : Nat) : Int)) i hi
  rw [e1]
  exact so_53 cx hr hlk dJ0_length_8abf5_10
theorem jm_pre (hex : am_ext x) (oh : am_okh x h) {a b : Int} {v : Option Nat} (ha : am_r4 a) (hb : am_r4 b) (h0 : 0 ≤ a) (h1 : a < b) (d : Nat) : am_Met l D base xa cA x d (Cond.code yJ3_checkIndex_8e157 cJ3_checkIndex_8e157 3 (some .int) :: am_T) yJ3_checkIndex_8e157 [.inl a, .inl b, .inr (.inr v)] h (some (.inl a)) h := by
  refine am_Met_of (by decide +kernel) (by show (3 : Nat) ≤ 3; omega) hex (am_oki ha (am_oki hb (am_okr am_ok0))) oh ?_
  intro p e s m args below meth c cx hX hr hlk hnm
  refine so_4 (k := 0) (nx := 1) cx (Or.inr ⟨0, rfl, dJ3_checkIndex_8e157_0, rfl⟩) rfl ?_
  refine so_25 (o := 2) (t := 9) (f := 4) cx ⟨dJ3_checkIndex_8e157_1, rfl⟩ ?_
  rw [if_neg (show ¬ am_cd 2 a 0 = true by rw [Bool.not_eq_true]; exact decide_eq_false (by omega))]
  refine so_4 (k := 0) (nx := 5) cx (Or.inr ⟨0, rfl, dJ3_checkIndex_8e157_4, rfl⟩) rfl ?_
  refine so_4 (k := 1) (nx := 6) cx (Or.inr ⟨1, rfl, dJ3_checkIndex_8e157_5, rfl⟩) rfl ?_
  refine so_26 (o := 2) (t := 16) (f := 9) cx ⟨dJ3_checkIndex_8e157_6, rfl⟩ ?_
  rw [if_pos (show am_cd 2 a b = true from decide_eq_true h1)]
  refine so_4 (k := 0) (nx := 17) cx (Or.inr ⟨0, rfl, dJ3_checkIndex_8e157_16, rfl⟩) rfl ?_
  exact so_53 cx hr hlk dJ3_checkIndex_8e157_17
theorem jm_chk (hex : am_ext x) (oh : am_okh x h) {a b : Int} (ha : am_r4 a) (hb : am_r4 b) (h0 : 0 ≤ a) (h1 : a < b) {d : Nat} (hd : 1 ≤ d) : am_Met l D base xa cA x d (Cond.code yJ0_checkIndex_df160 cJ0_checkIndex_df160 2 none :: am_T) yJ0_checkIndex_df160 [.inl a, .inl b] h none h := by
  refine am_Met_of (by decide +kernel) (by show (2 : Nat) ≤ 2; omega) hex (am_oki ha (am_oki hb am_ok0)) oh ?_
  intro p e s m args below meth c cx hX hr hlk hnm
  refine so_4 (k := 0) (nx := 1) cx (Or.inr ⟨0, rfl, dJ0_checkIndex_df160_0, rfl⟩) rfl ?_
  refine so_4 (k := 1) (nx := 2) cx (Or.inr ⟨1, rfl, dJ0_checkIndex_df160_1, rfl⟩) rfl ?_
  refine st_fmt cx hX dJ0_checkIndex_df160_2 am_jf_fmt (fun v hv => ?_)
  refine so_45 (np := 3) (nx := 8) (v := some (.inl a)) (h' := h) cx hX ⟨dJ0_checkIndex_df160_5, rfl⟩ am_jm_pre am_jt_pre (Or.inl am_jl_chk_pre) (d := 0) ⟨by show 0 + 1 ≤ d; omega, by show 64 * (0 + 1) ≤ 64 * d; omega⟩ ⟨Nat.le_of_ble_eq_true rfl, Nat.le_of_ble_eq_true rfl⟩ (fun _ _ => ⟨jm_pre hex oh ha hb h0 h1 0, fun z hz => by cases hz; exact ha, oh, Nat.le_refl _, Nat.le_refl _⟩) (Nat.le_add_right _ _) (Nat.le_add_right _ _) ?_
  refine so_24 (nx := 9) cx ⟨dJ0_checkIndex_df160_8, rfl⟩ rfl ?_
  exact so_56 cx hr hlk dJ0_checkIndex_df160_9
theorem jm_l1c (hex : am_ext x) (oh : am_okh x h) {i : Nat} {k : Int} (hi : i < 18) (h0 : 0 ≤ k) (h1 : k < ((am_sl.getD i 0 : Nat) : Int)) {d : Nat} (hd : 2 ≤ d) : am_Met l D base xa cA x d (Cond.code yJ1_charAt_3b067 cJ1_charAt_3b067 2 (some .char) :: am_T) yJ1_charAt_3b067 [.inr (.inr (some (24 + i))), .inl k] h (some (.inl ((am_sb.getD i []).getD k.toNat 0).toInt)) h := by
  have hl := (am_sb_ok i hi).2.1
  obtain ⟨c1, c2, c3⟩ := (am_sb_ok i hi).2.2 k.toNat (by omega)
  have hk4 : am_r4 k := ⟨by omega, by omega⟩
  refine am_Met_of (by decide +kernel) (by show (2 : Nat) ≤ 2; omega) hex (am_okr (am_oki hk4 am_ok0)) oh ?_
  intro p e s m args below meth c cx hX hr hlk hnm
  refine so_4 (k := 1) (nx := 1) cx (Or.inr ⟨1, rfl, dJ1_charAt_3b067_0, rfl⟩) rfl ?_
  refine so_6 (k := 0) (nx := 2) cx (Or.inr ⟨0, rfl, dJ1_charAt_3b067_1, rfl⟩) rfl ?_
  refine st_len cx hX hi dJ1_charAt_3b067_2 ?_
  refine so_45 (np := 2) (nx := 6) (v := none) (h' := h) cx hX ⟨dJ1_charAt_3b067_3, rfl⟩ am_jm_chk am_jt_chk (Or.inl am_jl_l1c_chk) (d := 1) ⟨by show 1 + 1 ≤ d; omega, by show 64 * (1 + 1) ≤ 64 * d; omega⟩ ⟨Nat.le_of_ble_eq_true rfl, Nat.le_of_ble_eq_true rfl⟩ (fun _ _ => ⟨jm_chk hex oh hk4 ⟨by omega, by omega⟩ h0 h1 (Nat.le_refl 1), (fun z hz => by cases hz), oh, Nat.le_refl _, Nat.le_refl _⟩) (Nat.le_add_right _ _) (Nat.le_add_right _ _) ?_
  refine so_6 (k := 0) (nx := 7) cx (Or.inr ⟨0, rfl, dJ1_charAt_3b067_6, rfl⟩) rfl ?_
  refine so_4 (k := 1) (nx := 8) cx (Or.inr ⟨1, rfl, dJ1_charAt_3b067_7, rfl⟩) rfl ?_
  refine st_bal cx hX hi h0 h1 dJ1_charAt_3b067_8 ?_
  refine so_0 (v := 255) (nx := 12) (ns := []) cx ⟨by omega, by omega⟩ (Or.inr (Or.inr (Or.inl ⟨⟨dJ1_charAt_3b067_9, rfl⟩, by decide +kernel⟩))) ?_
  refine so_11 (o := 3) (nx := 13) cx (by omega) ⟨dJ1_charAt_3b067_12, rfl⟩ ?_
  refine st_i2c (r := ((am_sb.getD i []).getD k.toNat 0).toInt) cx (am_r4_to _) ?_ dJ1_charAt_3b067_13 ?_
  · rw [am_of_toInt]
    show ((Int32.ofInt (am_b4 3 (Int32.ofInt (Int32.toInt _)) (Int32.ofInt 255)).toInt).toUInt32 % 65536).toInt32 = _
    rw [am_of_toInt, am_of_toInt]
    exact c1
  · refine st_ret cx hr hlk ?_ dJ1_charAt_3b067_14
    have e1 : Int32.ofInt ((am_sb.getD i []).getD k.toNat 0).toInt = nI ((am_sb.getD i []).getD k.toNat 0).toInt.toNat := by
      show _ = Int32.ofNat _
      rw [am_ofNat]
      congr 1
      omega
    rw [e1]
    exact (pk_charN (by omega)).1
theorem jm_cha (hex : am_ext x) (oh : am_okh x h) {i : Nat} {k : Int} (hi : i < 18) (h0 : 0 ≤ k) (h1 : k < ((am_sl.getD i 0 : Nat) : Int)) {d : Nat} (hd : 3 ≤ d) : am_Met l D base xa cA x d (Cond.code yJ0_charAt_5068e cJ0_charAt_5068e 2 (some .char) :: am_T) yJ0_charAt_5068e [.inr (.inr (some (3 + i))), .inl k] h (some (.inl ((am_sb.getD i []).getD k.toNat 0).toInt)) h := by
  have hl := (am_sb_ok i hi).2.1
  obtain ⟨c1, c2, c3⟩ := (am_sb_ok i hi).2.2 k.toNat (by omega)
  have hk4 : am_r4 k := ⟨by omega, by omega⟩
  refine am_Met_of (by decide +kernel) (by show (2 : Nat) ≤ 2; omega) hex (am_okr (am_oki hk4 am_ok0)) oh ?_
  intro p e s m args below meth c cx hX hr hlk hnm
  refine so_6 (k := 0) (nx := 1) cx (Or.inr ⟨0, rfl, dJ0_charAt_5068e_0, rfl⟩) rfl ?_
  refine so_46s (np := 0) (as := []) (nx := 4) (v := some (.inl 1)) cx hX ⟨dJ0_charAt_5068e_1, rfl⟩ am_js_lat am_jl_cha_lat am_jm_lat am_jt_lat (d := 0) ⟨by show 0 + 1 ≤ d; omega, by show 64 * (0 + 1) ≤ 64 * d; omega⟩ ⟨Nat.le_of_ble_eq_true rfl, Nat.le_of_ble_eq_true rfl⟩ rfl ⟨by omega, by omega⟩ (jm_lat hex oh hi 0) (fun _ z hz => by cases hz; exact ⟨by omega, by omega⟩) (Nat.le_add_right _ _) (Nat.le_add_right _ _) ?_
  refine so_25 (o := 0) (t := 16) (f := 7) cx ⟨dJ0_charAt_5068e_4, rfl⟩ ?_
  refine so_6 (k := 0) (nx := 8) cx (Or.inr ⟨0, rfl, dJ0_charAt_5068e_7, rfl⟩) rfl ?_
  refine st_val cx hX hi dJ0_charAt_5068e_8 am_jf_val ?_
  refine so_4 (k := 1) (nx := 12) cx (Or.inr ⟨1, rfl, dJ0_charAt_5068e_11, rfl⟩) rfl ?_
  refine so_45 (np := 2) (nx := 15) (v := some (.inl ((am_sb.getD i []).getD k.toNat 0).toInt)) (h' := h) cx hX ⟨dJ0_charAt_5068e_12, rfl⟩ am_jm_l1c am_jt_l1c (Or.inl am_jl_cha_l1c) (d := 2) ⟨by show 2 + 1 ≤ d; omega, by show 64 * (2 + 1) ≤ 64 * d; omega⟩ ⟨Nat.le_of_ble_eq_true rfl, Nat.le_of_ble_eq_true rfl⟩ (fun _ _ => ⟨jm_l1c hex oh hi h0 h1 (Nat.le_refl 2), fun z hz => by cases hz; exact am_r4_to _, oh, Nat.le_refl _, Nat.le_refl _⟩) (Nat.le_add_right _ _) (Nat.le_add_right _ _) ?_
  refine st_ret cx hr hlk ?_ dJ0_charAt_5068e_15
  have e1 : Int32.ofInt ((am_sb.getD i []).getD k.toNat 0).toInt = nI ((am_sb.getD i []).getD k.toNat 0).toInt.toNat := by
    show _ = Int32.ofNat _
    rw [am_ofNat]
    congr 1
    omega
  rw [e1]
  exact (pk_charN (by omega)).1
/-- the texts as the abstract heap has them -/
def am_exS (x : am_H) : Prop := ∀ q n, q < 64 → x.1.2.2 q = .inl (8, n) → 3 ≤ q ∧ q < 21 ∧ n = am_sl.getD (q - 3) 0 ∧ ∀ j, j < n → x.2.1 q j = ((am_sb.getD (q - 3) []).getD j 0).toInt
theorem am_SC8_of (hex : am_ext x) (hx : am_exS x) : am_SC8 l D base xa cA x := by
  intro q n h hq e oh
  obtain ⟨q1, q2, hn, hc⟩ := hx q n hq e
  have e3 : 3 + (q - 3) = q := by omega
  refine ⟨⟨q1, q2⟩, ?_, fun i i0 i1 => ?_⟩
  · have := jm_len (l := l) (D := D) (base := base) (xa := xa) (cA := cA) hex oh (i := q - 3) (d := 6) (by omega) (by omega)
    rw [e3, ← hn] at this
    exact this
  · rw [hc i.toNat (by omega)]
    have := jm_cha (l := l) (D := D) (base := base) (xa := xa) (cA := cA) hex oh (i := q - 3) (k := i) (d := 6) (by omega) i0 (by rw [← hn]; exact i1) (by omega)
    rw [e3] at this
    exact this
end AMJ
