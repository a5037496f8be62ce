-- the start, and the rules for the law's script
theorem K_0 : zK c_0 (fun _ _ => 0) := by
  have z := zC_0
  refine ⟨⟨z_wf_0, z.1.1, z.1.2.2, ⟨rfl, rfl, ?_⟩, ?_⟩, ?_, ?_, ⟨rfl, ?_⟩, ?_, ?_, ?_, ?_, ?_, ⟨?_, ?_⟩⟩
  · intro t t0 t1
    have t2 : t < 0 := t1
    omega
  · intro s hs
    have h1 := hs.1
    have h2 : s / 4 < 0 := hs.2.1
    omega
  · intro n n0 n1
    refine ⟨rfl, fun t _ _ => ⟨?_, ?_⟩, fun o o0 o1 => ?_⟩
    · show zB 0 t = _
      rw [zB_0]
      rfl
    · show zB 0 t = _
      rw [zB_0]
      rfl
    · show zB 15 o = _
      have hc : o = 0 ∨ o = 1 ∨ o = 2 ∨ o = 3 := by omega
      rcases hc with rfl | rfl | rfl | rfl <;> rfl
  · intro t n t0 t1
    have t2 : t < 0 := t1
    omega
  · intro k k0 k1
    have k2 : k < 0 := k1
    omega
  · intro t t0 t1
    have t2 : t < 0 := t1
    omega
  · intro s s0 s1 _
    show (if 0 ≤ s ∧ s < 80 then (-1 : Int) else 0) = -1
    rw [if_pos ⟨s0, s1⟩]
  · intro t t0 t1
    have t2 : t < 0 := t1
    omega
  · intro n t _ _ _ _ h
    exact absurd rfl h
  · intro t _ _
    exact ⟨⟨rfl, rfl, rfl, rfl, rfl⟩, fun _ _ _ => rfl⟩
  · intro k k0 k1
    have k2 : k < 0 := k1
    omega
  · intro i j i0 i1 j1
    have j2 : j < 0 := j1
    omega
abbrev mW (nm : String) (n : Nat) (xs : Nat → Int32) : z_MD := (⟨"NotaryHallLaw", nm, "([I)Z"⟩, code, 4, some .boolean, n + 1, xs)
def zsx (xs : Nat → Int32) (z : Int) : Int := (xs z.toNat).toInt
theorem zsx_rg (xs : Nat → Int32) (z : Int) : z_rg (zsx xs z) := iI_rg _
def zbo (x : Int) : Int := if x = 0 then 0 else 1
theorem zbo_01 (x : Int) : 0 ≤ zbo x ∧ zbo x ≤ 1 := by
  unfold zbo
  split <;> omega
section
variable {Y : z_MD} {d : Nat × Nat} {kc ks pc : Nat} {L S : List Value} {M : List va_E} {Q : Option Value → List va_E → Prop}
theorem ev_more {kc' ks' : Nat} (h1 : kc ≤ kc') (h2 : ks ≤ ks') (h : z_Ev Y d kc ks pc L S M Q) : z_Ev Y d kc' ks' pc L S M Q := by
  intro p l e R s m args below meth c b sc D cA H locs cells slots ls Qm hh hr
  refine h p l e R s m args below meth c b sc D cA H locs cells slots ls Qm ⟨hh.1, ⟨hh.2.1.1, hh.2.1.2.1, ?_, ?_⟩, hh.2.2⟩ hr
  · have := hh.2.1.2.2.1
    omega
  · have := hh.2.1.2.2.2
    omega
theorem zr_slen {nm : String} {n q k : Nat} {xs : Nat → Int32} (hd : decode code pc = .ok (.arraylength, 1)) (hq : pc + 1 = q) (kk : z_Ev (mW nm n xs) d kc ks q L (zi (n : Int) :: S) M Q) : z_Ev (mW nm n xs) d kc ks pc L (.retAddr k :: S) M Q := by
  refine ev_slen hd (Nat.succ_ne_zero n) hq ?_
  show z_Ev (mW nm n xs) d kc ks q L (.int (nI (n + 1 - 1)) :: S) M Q
  rw [Nat.add_sub_cancel, iI_nI]
  exact kk
theorem zr_sld {nm : String} {n q k : Nat} {xs : Nat → Int32} {z : Int} (hd : decode code pc = .ok (.iaload, 1)) (hn : n ≤ 3072) (hz : 0 ≤ z ∧ z < n) (hq : pc + 1 = q) (kk : z_Ev (mW nm n xs) d kc ks q L (zi (zsx xs z) :: S) M Q) : z_Ev (mW nm n xs) d kc ks pc L (zi z :: .retAddr k :: S) M Q := by
  refine ev_sld hd (Nat.succ_ne_zero n) ?_ (iI_clamp ⟨by omega, by omega⟩) hq ?_
  · show vp_in (iI z) (n + 1 - 1)
    rw [Nat.add_sub_cancel, vp_in_iff, iI_toInt ⟨by omega, by omega⟩]
    exact hz
  · show z_Ev (mW nm n xs) d kc ks q L (.int (xs z.toNat) :: S) M Q
    rw [iI_of (xs z.toNat)]
    exact kk
theorem ev_bool {q : Nat} {x : Int} (hx : z_rg x) (h1 : decode Y.2.1 pc = .ok (.ifCond .eq 7, 3)) (h2 : decode Y.2.1 (pc + 3) = .ok (.iconst 1, 1)) (h3 : decode Y.2.1 (pc + 4) = .ok (.goto 4, 3)) (h4 : decode Y.2.1 (pc + 7) = .ok (.iconst 0, 1)) (hq : pc + 8 = q) (k : z_Ev Y d kc ks q L (zi (zbo x) :: S) M Q) : z_Ev Y d kc ks pc L (zi x :: S) M Q := by
  subst hq
  refine zr_if_eq (t := pc + 7) (q := pc + 3) h1 (by omega) rfl hx (fun c => ?_) (fun c => ?_)
  · refine ev_iconst (v := iI 0) (q := pc + 8) h4 rfl rfl ?_
    rw [zbo, if_pos c] at k
    exact k
  · refine ev_iconst (v := iI 1) (q := pc + 4) h2 rfl rfl ?_
    refine ev_goto (t := pc + 8) (q := pc + 8) h3 (by omega) rfl ?_
    rw [zbo, if_neg c] at k
    exact k
end
/-- what holds between the calls; i counts the script's ints that are read -/
def zJ (g : z_Gl) (γ ρ : z_Sg) (i : Int) : Prop := zC g γ ∧ zLog g γ ∧ zK γ ρ ∧ 6 * γ 1 0 ≤ 1000 * i
theorem zJ_next {g : z_Gl} {γ ρ : z_Sg} {i : Int} (J : zJ g γ ρ i) : zJ g γ ρ (i + 6) := ⟨J.1, J.2.1, J.2.2.1, by have := J.2.2.2; omega⟩
theorem zLog_consume {g : z_Gl} {γ : z_Sg} (hg : zLog g γ) (t u o : Int) : zLog g (cH_consume γ t u o).2 := by
  refine zLog_of hg ?_ ?_
  · rw [kH_consume t u o (by decide) (by decide) (by decide)]
  · intro w
    have key : ∀ s u : Int, (cT_addInput γ t s u).2 32 (2 * w + 1) = γ 32 (2 * w + 1) := by
      intro s u
      show zup (γ 32) (2 * t) (γ 32 (2 * t) + 1) (2 * w + 1) = _
      rw [zup_n (by omega)]
    unfold cH_consume
    (repeat' split) <;> first | rfl | exact key _ _
theorem k1_bind (γ : z_Sg) (t o p : Int) {c : Nat} (h : c ≠ 38) : (cH_bind γ t o p).2 c = γ c := by
  unfold cH_bind
  (repeat' split) <;> first | rfl | exact z_up_n h
theorem k1_drop (γ : z_Sg) (t : Int) {c : Nat} (h : c ≠ 25) : (cH_drop γ t).2 c = γ c := by
  unfold cH_drop
  (repeat' split) <;> first | rfl | exact z_up_n h
theorem k1_tick (γ : z_Sg) (n : Int) {c : Nat} (h : c ≠ 1) : (cH_tick γ n).2 c = γ c := by
  unfold cH_tick
  (repeat' split) <;> first | rfl | exact z_up_n h
theorem k1_begin (γ : z_Sg) (nd no fr un : Int) : (cH_begin γ nd no fr un).2 1 = γ 1 := by
  unfold cH_begin
  (repeat' split) <;> rfl
theorem k1_produce (γ : z_Sg) (t kd x y am : Int) : (cH_produce γ t kd x y am).2 1 = γ 1 := by
  unfold cH_produce
  (repeat' split) <;> rfl
theorem k1_pay (γ : z_Sg) (t iss to am : Int) : (cH_pay γ t iss to am).2 1 = γ 1 := by
  have a := kH_pay_56 (γ := γ) t iss to am (γ 0 0 * 4).toNat 0 0 0 (c := 1) (by decide)
  have b : ∀ (δ : z_Sg) (tk tt : Int), tH_pay (cH_takeCoins δ t tk).2 t iss to am tt 1 = δ 1 := by
    intro δ tk tt
    have e := kH_takeCoins (γ := δ) t tk (c := 1) (by decide) (by decide) (by decide)
    unfold tH_pay
    split
    · exact e
    · exact e
  unfold cH_pay
  (repeat' split) <;> first | rfl | exact a | exact (b _ _ _).trans a
