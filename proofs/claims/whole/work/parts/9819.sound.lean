/-! ===== every call of the program is a call of the machine ===== -/
section AMZ
variable {l : Launch} {D : va_G} {base : Nat} {xa : Nat → Nat} {cA : Nat → ClassId} {x : am_H}
theorem am_sound (hex : am_ext x) (hS8 : am_SC8 l D base xa cA x) : ∀ d, am_KC l D base xa cA x (am_call am_B am_M d) (d + 8)
  | 0 => fun y as h v h' hy e => by simp [am_call] at e
  | d + 1 => by
    have ih := am_sound hex hS8 d
    intro y as h v h' hy e oS oh
    obtain ⟨hl, n, hrun⟩ := am_call_run e
    obtain ⟨Bs, hB, hck⟩ := am_tab y hy
    have hck2 : ∀ b, am_ckL (am_kn y) (am_cN y) (am_rN y) (decide ((am_yN y).name = "<init>")) (fun b => am_hd (am_B y b)) (am_B y b) = true := by
      rw [hB]
      exact am_ck_at hck
    obtain ⟨b1, b2, b3, b4⟩ := am_run_pres (o := (v, h')) hex (am_KC_KO ih) hck2 n _ _ _ _ (hck2 0) hrun (am_loc_ok oS) am_ok0 oh
    refine ⟨?_, b1, b2, b3, b4⟩
    obtain ⟨m1, -, m3, -⟩ := am_meth y hy
    refine am_Met_of m3 hl hex oS oh ?_
    intro p e s m args below meth c cx hX hr hlk hnm
    have cx2 : am_cx p s m args c D base xa cA x (am_cN y) (am_M y) h.1.1 (am_ON (am_kn y)) := by
      rw [← m1]
      exact cx
    have hst : am_hd (am_B y 0) = 0 := am_hd0 y hy
    rw [← hst]
    refine am_walk (o := (v, h')) (rt := am_rN y) (ini := decide ((am_yN y).name = "<init>")) cx2 hX (fun z => by rw [hnm]; exact of_decide_eq_true z) ih hS8 (R := am_rm (d + 1 + 8) h h') ⟨by show d + 8 + 1 ≤ d + 1 + 8; omega, by show 64 * (d + 8 + 1) ≤ 64 * (d + 1 + 8); omega⟩ (by omega) hck2 (by show h'.1.1 ≤ h.1.1 + (h'.1.1 - h.1.1); omega) (by show h'.1.2.1 ≤ h.1.2.1 + (h'.1.2.1 - h.1.2.1); omega) (fun nx i L S h2 g es => ?_) n _ _ _ _ (hck2 0) hrun
    obtain ⟨e1, e2⟩ := am_ret g es
    have e1 : h' = h2 := e1
    subst e1
    rcases e2 with ⟨q1, ⟨w, hS, hv⟩, hd⟩ | ⟨q1, ⟨w, hS, hv⟩, hd⟩ | ⟨⟨nn, q1⟩, ⟨w, hS, hv⟩, hd⟩ | ⟨q1, ⟨hS, hv⟩, hd⟩ | ⟨q1, ⟨w, hw, hS, hv⟩, hd⟩
    · have hv : v = some (.inl w) := hv
      subst hv
      subst hS
      exact so_53 cx2 (hr.trans q1) hlk hd
    · have hv : v = some (.inr (.inl w)) := hv
      subst hv
      subst hS
      exact so_54 cx2 (hr.trans q1) hlk hd
    · have hv : v = some (.inr (.inr (some w))) := hv
      subst hv
      subst hS
      exact so_55 cx2 (hr.trans q1) ⟨nn, rfl⟩ hlk hd
    · have hv : v = none := hv
      subst hv
      subst hS
      exact so_56 cx2 (hr.trans q1) hlk hd
    · have hv : v = some (.inl w) := hv
      subst hv
      subst hS
      exact so_57 cx2 (hr.trans q1) hlk hw hd
end AMZ
