def cJM_max (x y : Int) : Int := if x < y then y else x
theorem bJM_max (x y : Int) : x ≤ cJM_max x y ∧ y ≤ cJM_max x y ∧ (cJM_max x y = x ∨ cJM_max x y = y) := by
  unfold cJM_max
  split <;> omega
theorem zr_max {Y : z_MD} {d : Nat × Nat} {kc ks pc : Nat} {L S : List Value} {M : List va_E} {Q : Option Value → List va_E → Prop} {q idx : Nat} {x y : Int} (hd : decode Y.2.1 pc = .ok (.invokestatic idx, 3)) (hl : Cond.methodLink Y.1.cls idx Lib.Math.max.name ∈ z_ws) (hs : Cond.static Lib.Math.max.name ∈ z_ws) (hi : Cond.initialized "java/lang/Math" ∈ z_ws) (hco : Cond.code Lib.Math.max.name Lib.Math.max.code 2 (some .int) ∈ z_ws) (hS8 : S.length ≤ 8) (hSr : S.all z_real = true) (hdd : 1 ≤ d.1 ∧ 21 ≤ d.2) (hx : z_rg x) (hy : z_rg y) (hq : pc + 3 = q) (kk : z_Ev Y d kc ks q L (zi (cJM_max x y) :: S) M Q) : z_Ev Y d kc ks pc L (zi y :: zi x :: S) M Q := by
  subst hq
  intro p l ee R s m args below meth c b sc D cA H locs cells slots ls Qm h hr
  obtain ⟨⟨hx1, hb, hml, hown, hts, hK, -⟩, hR, hP, hz, hS, hL⟩ := id h
  refine va_mmax hx1 hb (by rw [hml]; exact hL.1.symm) hown (hts _ hl) (hts _ hs) (hts _ hi) (hts _ hco) (by omega) (by rw [z_sum hSr]; omega) (by omega) (by omega) hd ?_
  have e : (if iI x < iI y then iI y else iI x) = iI (cJM_max x y) := by
    unfold cJM_max
    by_cases hxy : x < y
    · rw [if_pos hxy, if_pos ((iI_lt hx hy).mpr hxy)]
    · rw [if_neg hxy, if_neg (fun z => hxy ((iI_lt hx hy).mp z))]
  rw [e]
  exact kk p l ee R s m args below meth c b sc D cA H locs cells slots ls Qm h hr

def cT_isOpen (γ : z_Sg) (t : Int) : Int := if (γ 25 t) = 0 then 1 else if (γ 25 t) = 1 then 1 else if (γ 25 t) ≠ 2 then 0 else 1
theorem bT_isOpen (γ : z_Sg) (t : Int) : cT_isOpen γ t = 0 ∨ cT_isOpen γ t = 1 := by
  unfold cT_isOpen
  repeat' split
  all_goals first | exact Or.inl rfl | exact Or.inr rfl
set_option maxRecDepth 100000 in
set_option maxHeartbeats 4000000 in
theorem sT_isOpen {g : z_Gl} {γ ρ : z_Sg} (hc : zC g γ) (t : Int) (hp0 : 0 ≤ t ∧ t < γ 0 0) : z_Sp mT_isOpen (0, 0) 0 0 [.ref (g.1 t)] (zH g γ ρ) (fun r M' => r = some (zi (cT_isOpen γ t)) ∧ M' = zH g γ ρ) := by
  refine z_Sp_of (L := [.ref (g.1 t)]) (by decide) rfl rfl rfl (Nat.le_of_ble_eq_true rfl) ?_
  refine ev_aload_n 0 (q := 1) dT_isOpen_0 rfl (by rfl) rfl ?_
  refine ev_get (q := 4) (v := zi (γ 25 t)) dT_isOpen_1 fT_37 (at_T hc.2.1 hp0) rfl rfl ?_
  have g1 : 0 ≤ γ 25 t ∧ γ 25 t ≤ 9 := hc.1 25 t (by decide)
  refine zr_if_eq (t := 23) (q := 7) dT_isOpen_4 rfl rfl ⟨by omega, by omega⟩ (fun h2 => ?_) (fun h2 => ?_)
  · refine ev_iconst (v := iI 1) (q := 24) dT_isOpen_23 rfl rfl ?_
    refine ev_goto (t := 28) (q := 28) dT_isOpen_24 rfl rfl ?_
    exact zr_zret dT_isOpen_28 rfl (by omega) ⟨by rw [cT_isOpen, if_pos h2], rfl⟩
  · refine ev_aload_n 0 (q := 8) dT_isOpen_7 rfl (by rfl) rfl ?_
    refine ev_get (q := 11) (v := zi (γ 25 t)) dT_isOpen_8 fT_37 (at_T hc.2.1 hp0) rfl rfl ?_
    have g3 : 0 ≤ γ 25 t ∧ γ 25 t ≤ 9 := hc.1 25 t (by decide)
    refine ev_iconst (v := iI 1) (q := 12) dT_isOpen_11 rfl rfl ?_
    refine zr_icmp_eq (t := 23) (q := 15) dT_isOpen_12 rfl rfl ⟨by omega, by omega⟩ ⟨by omega, by omega⟩ (fun h4 => ?_) (fun h4 => ?_)
    · refine ev_iconst (v := iI 1) (q := 24) dT_isOpen_23 rfl rfl ?_
      refine ev_goto (t := 28) (q := 28) dT_isOpen_24 rfl rfl ?_
      exact zr_zret dT_isOpen_28 rfl (by omega) ⟨by rw [cT_isOpen, if_neg h2, if_pos h4], rfl⟩
    · refine ev_aload_n 0 (q := 16) dT_isOpen_15 rfl (by rfl) rfl ?_
      refine ev_get (q := 19) (v := zi (γ 25 t)) dT_isOpen_16 fT_37 (at_T hc.2.1 hp0) rfl rfl ?_
      have g5 : 0 ≤ γ 25 t ∧ γ 25 t ≤ 9 := hc.1 25 t (by decide)
      refine ev_iconst (v := iI 2) (q := 20) dT_isOpen_19 rfl rfl ?_
      refine zr_icmp_ne (t := 27) (q := 23) dT_isOpen_20 rfl rfl ⟨by omega, by omega⟩ ⟨by omega, by omega⟩ (fun h6 => ?_) (fun h6 => ?_)
      · refine ev_iconst (v := iI 0) (q := 28) dT_isOpen_27 rfl rfl ?_
        exact zr_zret dT_isOpen_28 rfl (by omega) ⟨by rw [cT_isOpen, if_neg h2, if_neg h4, if_pos h6], rfl⟩
      · refine ev_iconst (v := iI 1) (q := 24) dT_isOpen_23 rfl rfl ?_
        refine ev_goto (t := 28) (q := 28) dT_isOpen_24 rfl rfl ?_
        exact zr_zret dT_isOpen_28 rfl (by omega) ⟨by rw [cT_isOpen, if_neg h2, if_neg h4, if_neg (fun z => z h6)], rfl⟩

def lT_owesMore_2 (γ : z_Sg) (t n : Int) : Nat → Int → Int
  | 0, k => 0
  | j + 1, k => if (cL_debtOf γ (2 * t + 1) n k) ≤ (cL_debtOf γ (2 * t) n k) then lT_owesMore_2 γ t n j (k + 1) else 1
theorem blT_owesMore_2 (γ : z_Sg) (t n : Int) : ∀ (j : Nat) (k : Int), lT_owesMore_2 γ t n j k = 0 ∨ lT_owesMore_2 γ t n j k = 1 := by
  intro j
  induction j with
  | zero =>
    intro k
    rw [lT_owesMore_2]
    repeat' split
    all_goals first | exact Or.inl rfl | exact Or.inr rfl
  | succ j ih =>
    intro k
    rw [lT_owesMore_2]
    repeat' split
    all_goals first | exact Or.inl rfl | exact Or.inr rfl | exact ih _
set_option maxRecDepth 100000 in
set_option maxHeartbeats 4000000 in
theorem eT_owesMore_2 {g : z_Gl} {γ ρ : z_Sg} (hc : zC g γ) (t n : Int) (hp0 : 0 ≤ t ∧ t < γ 0 0) (hp1 : z_rg n) : ∀ (j : Nat) (k : Int), 0 ≤ k → k + j = 4 → z_Ev mT_owesMore (2, 46) 0 0 2 [.ref (g.1 t), zi n, zi k] [] (zH g γ ρ) (fun r M' => r = some (zi (lT_owesMore_2 γ t n j k)) ∧ M' = zH g γ ρ) := by
  intro j
  induction j with
  | zero =>
    intro k  c0 c1
    refine ev_iload_n 2 (q := 3) dT_owesMore_2 rfl (by rfl) rfl ?_
    refine ev_iconst (v := iI 4) (q := 4) dT_owesMore_3 rfl rfl ?_
    refine zr_icmp_ge (t := 36) (q := 7) dT_owesMore_4 rfl rfl ⟨by omega, by omega⟩ ⟨by omega, by omega⟩ (fun h1 => ?_) (fun h1 => ?_)
    · refine ev_iconst (v := iI 0) (q := 37) dT_owesMore_36 rfl rfl ?_
      exact zr_zret dT_owesMore_37 rfl (by omega) ⟨by rw [lT_owesMore_2], rfl⟩
    · exfalso
      omega
  | succ j ih =>
    intro k  c0 c1
    refine ev_iload_n 2 (q := 3) dT_owesMore_2 rfl (by rfl) rfl ?_
    refine ev_iconst (v := iI 4) (q := 4) dT_owesMore_3 rfl rfl ?_
    refine zr_icmp_ge (t := 36) (q := 7) dT_owesMore_4 rfl rfl ⟨by omega, by omega⟩ ⟨by omega, by omega⟩ (fun h1 => ?_) (fun h1 => ?_)
    · exfalso
      omega
    · refine ev_aload_n 0 (q := 8) dT_owesMore_7 rfl (by rfl) rfl ?_
      refine ev_get (q := 11) dT_owesMore_8 fT_34 (at_T hc.2.1 hp0) (by rfl) rfl ?_
      refine ev_iload_n 1 (q := 12) dT_owesMore_11 rfl (by rfl) rfl ?_
      refine ev_iload_n 2 (q := 13) dT_owesMore_12 rfl (by rfl) rfl ?_
      refine cv_V (As := [_, _]) (q := 16) dT_owesMore_13 kT_132 (at_L hc.2.1 (zl1 hp0)) rfl rfl (Nat.le_of_ble_eq_true rfl) rfl rfl rfl (by decide) (sL_debtOf hc (2 * t + 1) n k (zl1 hp0) ⟨by omega, by omega⟩ ⟨by omega, by omega⟩ ) ?_
      have g2 := bL_debtOf hc (2 * t + 1) n k (zl1 hp0) ⟨by omega, by omega⟩ ⟨by omega, by omega⟩ 
      refine ev_aload_n 0 (q := 17) dT_owesMore_16 rfl (by rfl) rfl ?_
      refine ev_get (q := 20) dT_owesMore_17 fT_30 (at_T hc.2.1 hp0) (by rfl) rfl ?_
      refine ev_iload_n 1 (q := 21) dT_owesMore_20 rfl (by rfl) rfl ?_
      refine ev_iload_n 2 (q := 22) dT_owesMore_21 rfl (by rfl) rfl ?_
      refine cv_V (As := [_, _]) (q := 25) dT_owesMore_22 kT_132 (at_L hc.2.1 (zl0 hp0)) rfl rfl (Nat.le_of_ble_eq_true rfl) rfl rfl rfl (by decide) (sL_debtOf hc (2 * t) n k (zl0 hp0) ⟨by omega, by omega⟩ ⟨by omega, by omega⟩ ) ?_
      have g3 := bL_debtOf hc (2 * t) n k (zl0 hp0) ⟨by omega, by omega⟩ ⟨by omega, by omega⟩ 
      refine zr_icmp_le (t := 30) (q := 28) dT_owesMore_25 rfl rfl ⟨by omega, by omega⟩ ⟨by omega, by omega⟩ (fun h4 => ?_) (fun h4 => ?_)
      · refine zr_iinc (q := 33) dT_owesMore_30 (by rfl) (by decide) rfl rfl ?_
        dsimp only [List.set]
        refine ev_goto (t := 2) (q := 2) dT_owesMore_33 rfl rfl ?_
        rw [show lT_owesMore_2 γ t n (j + 1) k = lT_owesMore_2 γ t n j (k + 1) from by rw [lT_owesMore_2, if_pos h4]]
        exact ih (k + 1)  (by omega) (by omega)
      · refine ev_iconst (v := iI 1) (q := 29) dT_owesMore_28 rfl rfl ?_
        exact zr_zret dT_owesMore_29 rfl (by omega) ⟨by rw [lT_owesMore_2, if_neg (Int.not_le.mpr h4)], rfl⟩
def cT_owesMore (γ : z_Sg) (t n : Int) : Int := lT_owesMore_2 γ t n 4 0
theorem bT_owesMore (γ : z_Sg) (t n : Int) : cT_owesMore γ t n = 0 ∨ cT_owesMore γ t n = 1 := by
  unfold cT_owesMore
  repeat' split
  all_goals first | exact Or.inl rfl | exact Or.inr rfl | exact blT_owesMore_2 _ _ _ _ _
set_option maxRecDepth 100000 in
set_option maxHeartbeats 4000000 in
theorem sT_owesMore {g : z_Gl} {γ ρ : z_Sg} (hc : zC g γ) (t n : Int) (hp0 : 0 ≤ t ∧ t < γ 0 0) (hp1 : z_rg n) : z_Sp mT_owesMore (2, 46) 0 0 [.ref (g.1 t), zi n] (zH g γ ρ) (fun r M' => r = some (zi (cT_owesMore γ t n)) ∧ M' = zH g γ ρ) := by
  refine z_Sp_of (L := [.ref (g.1 t), zi n, .float 0]) (by decide) rfl rfl rfl (Nat.le_of_ble_eq_true rfl) ?_
  refine ev_iconst (v := iI 0) (q := 1) dT_owesMore_0 rfl rfl ?_
  refine ev_istore_n 2 (q := 2) dT_owesMore_1 rfl (by decide) rfl rfl ?_
  dsimp only [List.set]
  rw [show cT_owesMore γ t n = lT_owesMore_2 γ t n 4 0 from by rw [cT_owesMore]]
  exact eT_owesMore_2 hc t n hp0 hp1 4 0  (by omega) (by omega)

def lT_isLetDown_4 (γ : z_Sg) (t n : Int) : Nat → Int → Int → Int
  | 0, k, lo => if lo ≤ 0 then 0 else if lo ≤ ((cL_cashOwnedBy γ (2 * t + 1) n) - (cL_cashOwnedBy γ (2 * t) n)) then 0 else 1
  | j + 1, k, lo => lT_isLetDown_4 γ t n j (k + 1) (lo + (cJM_max ((cL_debtOf γ (2 * t) k n) - (cL_debtOf γ (2 * t + 1) k n)) 0))
theorem blT_isLetDown_4 (γ : z_Sg) (t n : Int) : ∀ (j : Nat) (k lo : Int), lT_isLetDown_4 γ t n j k lo = 0 ∨ lT_isLetDown_4 γ t n j k lo = 1 := by
  intro j
  induction j with
  | zero =>
    intro k lo
    rw [lT_isLetDown_4]
    repeat' split
    all_goals first | exact Or.inl rfl | exact Or.inr rfl
  | succ j ih =>
    intro k lo
    rw [lT_isLetDown_4]
    repeat' split
    all_goals first | exact Or.inl rfl | exact Or.inr rfl | exact ih _ _
set_option maxRecDepth 100000 in
set_option maxHeartbeats 4000000 in
theorem eT_isLetDown_4 {g : z_Gl} {γ ρ : z_Sg} (hc : zC g γ) (t n : Int) (hp0 : 0 ≤ t ∧ t < γ 0 0) (hp1 : z_rg n) : ∀ (j : Nat) (k lo : Int) (x4 : Value), 0 ≤ k → k + j = 4 → (0 ≤ lo ∧ lo ≤ 4000 * k) → z_Ev mT_isLetDown (2, 46) 0 0 4 [.ref (g.1 t), zi n, zi lo, zi k, x4] [] (zH g γ ρ) (fun r M' => r = some (zi (lT_isLetDown_4 γ t n j k lo)) ∧ M' = zH g γ ρ) := by
  intro j
  induction j with
  | zero =>
    intro k lo x4 c0 c1 c2
    refine ev_iload_n 3 (q := 5) dT_isLetDown_4 rfl (by rfl) rfl ?_
    refine ev_iconst (v := iI 4) (q := 6) dT_isLetDown_5 rfl rfl ?_
    refine zr_icmp_ge (t := 45) (q := 9) dT_isLetDown_6 rfl rfl ⟨by omega, by omega⟩ ⟨by omega, by omega⟩ (fun h1 => ?_) (fun h1 => ?_)
    · refine ev_iload_n 2 (q := 46) dT_isLetDown_45 rfl (by rfl) rfl ?_
      refine zr_if_le (t := 74) (q := 49) dT_isLetDown_46 rfl rfl ⟨by omega, by omega⟩ (fun h2 => ?_) (fun h2 => ?_)
      · refine ev_iconst (v := iI 0) (q := 75) dT_isLetDown_74 rfl rfl ?_
        exact zr_zret dT_isLetDown_75 rfl (by omega) ⟨by rw [lT_isLetDown_4, if_pos h2], rfl⟩
      · refine ev_iload_n 2 (q := 50) dT_isLetDown_49 rfl (by rfl) rfl ?_
        refine ev_aload_n 0 (q := 51) dT_isLetDown_50 rfl (by rfl) rfl ?_
        refine ev_get (q := 54) dT_isLetDown_51 fT_34 (at_T hc.2.1 hp0) (by rfl) rfl ?_
        refine ev_iload_n 1 (q := 55) dT_isLetDown_54 rfl (by rfl) rfl ?_
        refine cv_V (As := [_]) (q := 58) dT_isLetDown_55 kT_141 (at_L hc.2.1 (zl1 hp0)) rfl rfl (Nat.le_of_ble_eq_true rfl) rfl rfl rfl (by decide) (sL_cashOwnedBy hc (2 * t + 1) n (zl1 hp0) ⟨by omega, by omega⟩ ) ?_
        have g3 := bL_cashOwnedBy hc (2 * t + 1) n (zl1 hp0) ⟨by omega, by omega⟩ 
        refine ev_aload_n 0 (q := 59) dT_isLetDown_58 rfl (by rfl) rfl ?_
        refine ev_get (q := 62) dT_isLetDown_59 fT_30 (at_T hc.2.1 hp0) (by rfl) rfl ?_
        refine ev_iload_n 1 (q := 63) dT_isLetDown_62 rfl (by rfl) rfl ?_
        refine cv_V (As := [_]) (q := 66) dT_isLetDown_63 kT_141 (at_L hc.2.1 (zl0 hp0)) rfl rfl (Nat.le_of_ble_eq_true rfl) rfl rfl rfl (by decide) (sL_cashOwnedBy hc (2 * t) n (zl0 hp0) ⟨by omega, by omega⟩ ) ?_
        have g4 := bL_cashOwnedBy hc (2 * t) n (zl0 hp0) ⟨by omega, by omega⟩ 
        refine zr_isub (q := 67) dT_isLetDown_66 rfl ?_
        refine zr_icmp_le (t := 74) (q := 70) dT_isLetDown_67 rfl rfl ⟨by omega, by omega⟩ ⟨by omega, by omega⟩ (fun h5 => ?_) (fun h5 => ?_)
        · refine ev_iconst (v := iI 0) (q := 75) dT_isLetDown_74 rfl rfl ?_
          exact zr_zret dT_isLetDown_75 rfl (by omega) ⟨by rw [lT_isLetDown_4, if_neg (Int.not_le.mpr h2), if_pos h5], rfl⟩
        · refine ev_iconst (v := iI 1) (q := 71) dT_isLetDown_70 rfl rfl ?_
          refine ev_goto (t := 75) (q := 75) dT_isLetDown_71 rfl rfl ?_
          exact zr_zret dT_isLetDown_75 rfl (by omega) ⟨by rw [lT_isLetDown_4, if_neg (Int.not_le.mpr h2), if_neg (Int.not_le.mpr h5)], rfl⟩
    · exfalso
      omega
  | succ j ih =>
    intro k lo x4 c0 c1 c2
    refine ev_iload_n 3 (q := 5) dT_isLetDown_4 rfl (by rfl) rfl ?_
    refine ev_iconst (v := iI 4) (q := 6) dT_isLetDown_5 rfl rfl ?_
    refine zr_icmp_ge (t := 45) (q := 9) dT_isLetDown_6 rfl rfl ⟨by omega, by omega⟩ ⟨by omega, by omega⟩ (fun h1 => ?_) (fun h1 => ?_)
    · exfalso
      omega
    · refine ev_aload_n 0 (q := 10) dT_isLetDown_9 rfl (by rfl) rfl ?_
      refine ev_get (q := 13) dT_isLetDown_10 fT_30 (at_T hc.2.1 hp0) (by rfl) rfl ?_
      refine ev_iload_n 3 (q := 14) dT_isLetDown_13 rfl (by rfl) rfl ?_
      refine ev_iload_n 1 (q := 15) dT_isLetDown_14 rfl (by rfl) rfl ?_
      refine cv_V (As := [_, _]) (q := 18) dT_isLetDown_15 kT_132 (at_L hc.2.1 (zl0 hp0)) rfl rfl (Nat.le_of_ble_eq_true rfl) rfl rfl rfl (by decide) (sL_debtOf hc (2 * t) k n (zl0 hp0) ⟨by omega, by omega⟩ ⟨by omega, by omega⟩ ) ?_
      have g2 := bL_debtOf hc (2 * t) k n (zl0 hp0) ⟨by omega, by omega⟩ ⟨by omega, by omega⟩ 
      refine ev_aload_n 0 (q := 19) dT_isLetDown_18 rfl (by rfl) rfl ?_
      refine ev_get (q := 22) dT_isLetDown_19 fT_34 (at_T hc.2.1 hp0) (by rfl) rfl ?_
      refine ev_iload_n 3 (q := 23) dT_isLetDown_22 rfl (by rfl) rfl ?_
      refine ev_iload_n 1 (q := 24) dT_isLetDown_23 rfl (by rfl) rfl ?_
      refine cv_V (As := [_, _]) (q := 27) dT_isLetDown_24 kT_132 (at_L hc.2.1 (zl1 hp0)) rfl rfl (Nat.le_of_ble_eq_true rfl) rfl rfl rfl (by decide) (sL_debtOf hc (2 * t + 1) k n (zl1 hp0) ⟨by omega, by omega⟩ ⟨by omega, by omega⟩ ) ?_
      have g3 := bL_debtOf hc (2 * t + 1) k n (zl1 hp0) ⟨by omega, by omega⟩ ⟨by omega, by omega⟩ 
      refine zr_isub (q := 28) dT_isLetDown_27 rfl ?_
      refine ev_istore (q := 30) dT_isLetDown_28 (by decide) rfl rfl ?_
      dsimp only [List.set]
      refine ev_iload_n 2 (q := 31) dT_isLetDown_30 rfl (by rfl) rfl ?_
      refine ev_iload (q := 33) dT_isLetDown_31 (by rfl) rfl ?_
      refine ev_iconst (v := iI 0) (q := 34) dT_isLetDown_33 rfl rfl ?_
      refine zr_max (q := 37) dT_isLetDown_34 wmT_136 wtJM_max wzJM woJM_max (Nat.le_of_ble_eq_true rfl) rfl (by decide) ⟨by omega, by omega⟩ ⟨by omega, by omega⟩ rfl ?_
      have g4 := bJM_max ((cL_debtOf γ (2 * t) k n) - (cL_debtOf γ (2 * t + 1) k n)) 0
      refine zr_iadd (q := 38) dT_isLetDown_37 rfl ?_
      refine ev_istore_n 2 (q := 39) dT_isLetDown_38 rfl (by decide) rfl rfl ?_
      dsimp only [List.set]
      refine zr_iinc (q := 42) dT_isLetDown_39 (by rfl) (by decide) rfl rfl ?_
      dsimp only [List.set]
      refine ev_goto (t := 4) (q := 4) dT_isLetDown_42 rfl rfl ?_
      rw [show lT_isLetDown_4 γ t n (j + 1) k lo = lT_isLetDown_4 γ t n j (k + 1) (lo + (cJM_max ((cL_debtOf γ (2 * t) k n) - (cL_debtOf γ (2 * t + 1) k n)) 0)) from by rw [lT_isLetDown_4]]
      exact ih (k + 1) (lo + (cJM_max ((cL_debtOf γ (2 * t) k n) - (cL_debtOf γ (2 * t + 1) k n)) 0)) (zi ((cL_debtOf γ (2 * t) k n) - (cL_debtOf γ (2 * t + 1) k n))) (by omega) (by omega) (by omega)
def cT_isLetDown (γ : z_Sg) (t n : Int) : Int := lT_isLetDown_4 γ t n 4 0 0
theorem bT_isLetDown (γ : z_Sg) (t n : Int) : cT_isLetDown γ t n = 0 ∨ cT_isLetDown γ t n = 1 := by
  unfold cT_isLetDown
  repeat' split
  all_goals first | exact Or.inl rfl | exact Or.inr rfl | exact blT_isLetDown_4 _ _ _ _ _ _
set_option maxRecDepth 100000 in
set_option maxHeartbeats 4000000 in
theorem sT_isLetDown {g : z_Gl} {γ ρ : z_Sg} (hc : zC g γ) (t n : Int) (hp0 : 0 ≤ t ∧ t < γ 0 0) (hp1 : z_rg n) : z_Sp mT_isLetDown (2, 46) 0 0 [.ref (g.1 t), zi n] (zH g γ ρ) (fun r M' => r = some (zi (cT_isLetDown γ t n)) ∧ M' = zH g γ ρ) := by
  refine z_Sp_of (L := [.ref (g.1 t), zi n, .float 0, .float 0, .float 0]) (by decide) rfl rfl rfl (Nat.le_of_ble_eq_true rfl) ?_
  refine ev_iconst (v := iI 0) (q := 1) dT_isLetDown_0 rfl rfl ?_
  refine ev_istore_n 2 (q := 2) dT_isLetDown_1 rfl (by decide) rfl rfl ?_
  dsimp only [List.set]
  refine ev_iconst (v := iI 0) (q := 3) dT_isLetDown_2 rfl rfl ?_
  refine ev_istore_n 3 (q := 4) dT_isLetDown_3 rfl (by decide) rfl rfl ?_
  dsimp only [List.set]
  rw [show cT_isLetDown γ t n = lT_isLetDown_4 γ t n 4 0 0 from by rw [cT_isLetDown]]
  exact eT_isLetDown_4 hc t n hp0 hp1 4 0 0 (.float 0) (by omega) (by omega) (by omega)

def cT_mustSign (γ : z_Sg) (t n : Int) : Int := if (cL_holdsCashOwnedBy γ (2 * t) n) ≠ 0 then 1 else if (cL_cashIssuedBy γ (2 * t) n) ≠ (cL_cashIssuedBy γ (2 * t + 1) n) then 1 else if (cT_owesMore γ t n) ≠ 0 then 1 else if (cT_isLetDown γ t n) = 0 then 0 else 1
theorem bT_mustSign (γ : z_Sg) (t n : Int) : cT_mustSign γ t n = 0 ∨ cT_mustSign γ t n = 1 := by
  unfold cT_mustSign
  repeat' split
  all_goals first | exact Or.inl rfl | exact Or.inr rfl
set_option maxRecDepth 100000 in
set_option maxHeartbeats 4000000 in
theorem sT_mustSign {g : z_Gl} {γ ρ : z_Sg} (hc : zC g γ) (t n : Int) (hp0 : 0 ≤ t ∧ t < γ 0 0) (hp1 : z_rg n) : z_Sp mT_mustSign (3, 70) 0 0 [.ref (g.1 t), zi n] (zH g γ ρ) (fun r M' => r = some (zi (cT_mustSign γ t n)) ∧ M' = zH g γ ρ) := by
  refine z_Sp_of (L := [.ref (g.1 t), zi n]) (by decide) rfl rfl rfl (Nat.le_of_ble_eq_true rfl) ?_
  refine ev_aload_n 0 (q := 1) dT_mustSign_0 rfl (by rfl) rfl ?_
  refine ev_get (q := 4) dT_mustSign_1 fT_30 (at_T hc.2.1 hp0) (by rfl) rfl ?_
  refine ev_iload_n 1 (q := 5) dT_mustSign_4 rfl (by rfl) rfl ?_
  refine cv_V (As := [_]) (q := 8) dT_mustSign_5 kT_120 (at_L hc.2.1 (zl0 hp0)) rfl rfl (Nat.le_of_ble_eq_true rfl) rfl rfl rfl (by decide) (sL_holdsCashOwnedBy hc (2 * t) n (zl0 hp0) ⟨by omega, by omega⟩ ) ?_
  have g1 : (cL_holdsCashOwnedBy γ (2 * t) n) = 0 ∨ (cL_holdsCashOwnedBy γ (2 * t) n) = 1 := bL_holdsCashOwnedBy _ _ _
  refine zr_if_ne (t := 46) (q := 11) dT_mustSign_8 rfl rfl ⟨by omega, by omega⟩ (fun h2 => ?_) (fun h2 => ?_)
  · refine ev_iconst (v := iI 1) (q := 47) dT_mustSign_46 rfl rfl ?_
    refine ev_goto (t := 51) (q := 51) dT_mustSign_47 rfl rfl ?_
    exact zr_zret dT_mustSign_51 rfl (by omega) ⟨by rw [cT_mustSign, if_pos h2], rfl⟩
  · refine ev_aload_n 0 (q := 12) dT_mustSign_11 rfl (by rfl) rfl ?_
    refine ev_get (q := 15) dT_mustSign_12 fT_30 (at_T hc.2.1 hp0) (by rfl) rfl ?_
    refine ev_iload_n 1 (q := 16) dT_mustSign_15 rfl (by rfl) rfl ?_
    refine cv_V (As := [_]) (q := 19) dT_mustSign_16 kT_123 (at_L hc.2.1 (zl0 hp0)) rfl rfl (Nat.le_of_ble_eq_true rfl) rfl rfl rfl (by decide) (sL_cashIssuedBy hc (2 * t) n (zl0 hp0) ⟨by omega, by omega⟩ ) ?_
    have g3 := bL_cashIssuedBy hc (2 * t) n (zl0 hp0) ⟨by omega, by omega⟩ 
    refine ev_aload_n 0 (q := 20) dT_mustSign_19 rfl (by rfl) rfl ?_
    refine ev_get (q := 23) dT_mustSign_20 fT_34 (at_T hc.2.1 hp0) (by rfl) rfl ?_
    refine ev_iload_n 1 (q := 24) dT_mustSign_23 rfl (by rfl) rfl ?_
    refine cv_V (As := [_]) (q := 27) dT_mustSign_24 kT_123 (at_L hc.2.1 (zl1 hp0)) rfl rfl (Nat.le_of_ble_eq_true rfl) rfl rfl rfl (by decide) (sL_cashIssuedBy hc (2 * t + 1) n (zl1 hp0) ⟨by omega, by omega⟩ ) ?_
    have g4 := bL_cashIssuedBy hc (2 * t + 1) n (zl1 hp0) ⟨by omega, by omega⟩ 
    refine zr_icmp_ne (t := 46) (q := 30) dT_mustSign_27 rfl rfl ⟨by omega, by omega⟩ ⟨by omega, by omega⟩ (fun h5 => ?_) (fun h5 => ?_)
    · refine ev_iconst (v := iI 1) (q := 47) dT_mustSign_46 rfl rfl ?_
      refine ev_goto (t := 51) (q := 51) dT_mustSign_47 rfl rfl ?_
      exact zr_zret dT_mustSign_51 rfl (by omega) ⟨by rw [cT_mustSign, if_neg (fun z => z h2), if_pos h5], rfl⟩
    · refine ev_aload_n 0 (q := 31) dT_mustSign_30 rfl (by rfl) rfl ?_
      refine ev_iload_n 1 (q := 32) dT_mustSign_31 rfl (by rfl) rfl ?_
      refine cv_V (As := [_]) (q := 35) dT_mustSign_32 kT_126 (at_T hc.2.1 hp0) rfl rfl (Nat.le_of_ble_eq_true rfl) rfl rfl rfl (by decide) (sT_owesMore hc t n hp0 ⟨by omega, by omega⟩ ) ?_
      have g6 : (cT_owesMore γ t n) = 0 ∨ (cT_owesMore γ t n) = 1 := bT_owesMore _ _ _
      refine zr_if_ne (t := 46) (q := 38) dT_mustSign_35 rfl rfl ⟨by omega, by omega⟩ (fun h7 => ?_) (fun h7 => ?_)
      · refine ev_iconst (v := iI 1) (q := 47) dT_mustSign_46 rfl rfl ?_
        refine ev_goto (t := 51) (q := 51) dT_mustSign_47 rfl rfl ?_
        exact zr_zret dT_mustSign_51 rfl (by omega) ⟨by rw [cT_mustSign, if_neg (fun z => z h2), if_neg (fun z => z h5), if_pos h7], rfl⟩
      · refine ev_aload_n 0 (q := 39) dT_mustSign_38 rfl (by rfl) rfl ?_
        refine ev_iload_n 1 (q := 40) dT_mustSign_39 rfl (by rfl) rfl ?_
        refine cv_V (As := [_]) (q := 43) dT_mustSign_40 kT_129 (at_T hc.2.1 hp0) rfl rfl (Nat.le_of_ble_eq_true rfl) rfl rfl rfl (by decide) (sT_isLetDown hc t n hp0 ⟨by omega, by omega⟩ ) ?_
        have g8 : (cT_isLetDown γ t n) = 0 ∨ (cT_isLetDown γ t n) = 1 := bT_isLetDown _ _ _
        refine zr_if_eq (t := 50) (q := 46) dT_mustSign_43 rfl rfl ⟨by omega, by omega⟩ (fun h9 => ?_) (fun h9 => ?_)
        · refine ev_iconst (v := iI 0) (q := 51) dT_mustSign_50 rfl rfl ?_
          exact zr_zret dT_mustSign_51 rfl (by omega) ⟨by rw [cT_mustSign, if_neg (fun z => z h2), if_neg (fun z => z h5), if_neg (fun z => z h7), if_pos h9], rfl⟩
        · refine ev_iconst (v := iI 1) (q := 47) dT_mustSign_46 rfl rfl ?_
          refine ev_goto (t := 51) (q := 51) dT_mustSign_47 rfl rfl ?_
          exact zr_zret dT_mustSign_51 rfl (by omega) ⟨by rw [cT_mustSign, if_neg (fun z => z h2), if_neg (fun z => z h5), if_neg (fun z => z h7), if_neg h9], rfl⟩

def lT_needs_10 (γ : z_Sg) (t : Int) : Nat → Int → Int → Int
  | 0, k, nd => nd
  | j + 1, k, nd => if (cT_mustSign γ t k) = 0 then lT_needs_10 γ t j (k + 1) nd else lT_needs_10 γ t j (k + 1) (zor nd (cH_bit γ k))
set_option maxRecDepth 100000 in
set_option maxHeartbeats 4000000 in
theorem eT_needs_10 {g : z_Gl} {γ ρ : z_Sg} (hc : zC g γ) (t : Int) (hp0 : 0 ≤ t ∧ t < γ 0 0) : ∀ (j : Nat) (k nd : Int), 0 ≤ k → k + j = 4 → (0 ≤ nd ∧ nd ≤ 15) → z_Ev mT_needs (4, 91) 0 0 10 [.ref (g.1 t), zi nd, zi k] [] (zH g γ ρ) (fun r M' => r = some (zi (lT_needs_10 γ t j k nd)) ∧ M' = zH g γ ρ) := by
  intro j
  induction j with
  | zero =>
    intro k nd  c0 c1 c2
    refine ev_iload_n 2 (q := 11) dT_needs_10 rfl (by rfl) rfl ?_
    refine ev_iconst (v := iI 4) (q := 12) dT_needs_11 rfl rfl ?_
    refine zr_icmp_ge (t := 36) (q := 15) dT_needs_12 rfl rfl ⟨by omega, by omega⟩ ⟨by omega, by omega⟩ (fun h1 => ?_) (fun h1 => ?_)
    · refine ev_iload_n 1 (q := 37) dT_needs_36 rfl (by rfl) rfl ?_
      exact zr_iret dT_needs_37 rfl ⟨by rw [lT_needs_10], rfl⟩
    · exfalso
      omega
  | succ j ih =>
    intro k nd  c0 c1 c2
    refine ev_iload_n 2 (q := 11) dT_needs_10 rfl (by rfl) rfl ?_
    refine ev_iconst (v := iI 4) (q := 12) dT_needs_11 rfl rfl ?_
    refine zr_icmp_ge (t := 36) (q := 15) dT_needs_12 rfl rfl ⟨by omega, by omega⟩ ⟨by omega, by omega⟩ (fun h1 => ?_) (fun h1 => ?_)
    · exfalso
      omega
    · refine ev_aload_n 0 (q := 16) dT_needs_15 rfl (by rfl) rfl ?_
      refine ev_iload_n 2 (q := 17) dT_needs_16 rfl (by rfl) rfl ?_
      refine cv_V (As := [_]) (q := 20) dT_needs_17 kT_117 (at_T hc.2.1 hp0) rfl rfl (Nat.le_of_ble_eq_true rfl) rfl rfl rfl (by decide) (sT_mustSign hc t k hp0 ⟨by omega, by omega⟩ ) ?_
      have g2 : (cT_mustSign γ t k) = 0 ∨ (cT_mustSign γ t k) = 1 := bT_mustSign _ _ _
      refine zr_if_eq (t := 30) (q := 23) dT_needs_20 rfl rfl ⟨by omega, by omega⟩ (fun h3 => ?_) (fun h3 => ?_)
      · refine zr_iinc (q := 33) dT_needs_30 (by rfl) (by decide) rfl rfl ?_
        dsimp only [List.set]
        refine ev_goto (t := 10) (q := 10) dT_needs_33 rfl rfl ?_
        rw [show lT_needs_10 γ t (j + 1) k nd = lT_needs_10 γ t j (k + 1) nd from by rw [lT_needs_10, if_pos h3]]
        exact ih (k + 1) nd  (by omega) (by omega) (by omega)
      · refine ev_iload_n 1 (q := 24) dT_needs_23 rfl (by rfl) rfl ?_
        refine ev_iload_n 2 (q := 25) dT_needs_24 rfl (by rfl) rfl ?_
        refine cv_N (As := [_]) (q := 28) dT_needs_25 kT_46 rfl (Nat.le_of_ble_eq_true rfl) rfl rfl rfl (by decide) (sH_bit hc k ⟨by omega, by omega⟩ ) ?_
        have g4 := bH_bit γ (p := k) ⟨by omega, by omega⟩
        refine zr_ior (q := 29) dT_needs_28 rfl ?_
        have g5 : z_rg (zor nd (cH_bit γ k)) := iI_rg _
        have g6 := zor_15 (a := nd) (b := (cH_bit γ k)) ⟨by omega, by omega⟩ ⟨by omega, by omega⟩
        refine ev_istore_n 1 (q := 30) dT_needs_29 rfl (by decide) rfl rfl ?_
        dsimp only [List.set]
        refine zr_iinc (q := 33) dT_needs_30 (by rfl) (by decide) rfl rfl ?_
        dsimp only [List.set]
        refine ev_goto (t := 10) (q := 10) dT_needs_33 rfl rfl ?_
        rw [show lT_needs_10 γ t (j + 1) k nd = lT_needs_10 γ t j (k + 1) (zor nd (cH_bit γ k)) from by rw [lT_needs_10, if_neg h3]]
        exact ih (k + 1) (zor nd (cH_bit γ k))  (by omega) (by omega) (by omega)
def cT_needs (γ : z_Sg) (t : Int) : Int := lT_needs_10 γ t 4 0 (cH_bit γ (γ 20 t))
set_option maxRecDepth 100000 in
set_option maxHeartbeats 4000000 in
theorem sT_needs {g : z_Gl} {γ ρ : z_Sg} (hc : zC g γ) (t : Int) (hp0 : 0 ≤ t ∧ t < γ 0 0) : z_Sp mT_needs (4, 91) 0 0 [.ref (g.1 t)] (zH g γ ρ) (fun r M' => r = some (zi (cT_needs γ t)) ∧ M' = zH g γ ρ) := by
  refine z_Sp_of (L := [.ref (g.1 t), .float 0, .float 0]) (by decide) rfl rfl rfl (Nat.le_of_ble_eq_true rfl) ?_
  refine ev_aload_n 0 (q := 1) dT_needs_0 rfl (by rfl) rfl ?_
  refine ev_get (q := 4) (v := zi (γ 20 t)) dT_needs_1 fT_15 (at_T hc.2.1 hp0) rfl rfl ?_
  have g1 : 0 ≤ γ 20 t ∧ γ 20 t ≤ 3 := hc.1 20 t (by decide)
  refine cv_N (As := [_]) (q := 7) dT_needs_4 kT_46 rfl (Nat.le_of_ble_eq_true rfl) rfl rfl rfl (by decide) (sH_bit hc (γ 20 t) ⟨by omega, by omega⟩ ) ?_
  have g2 := bH_bit γ (p := (γ 20 t)) ⟨by omega, by omega⟩
  refine ev_istore_n 1 (q := 8) dT_needs_7 rfl (by decide) rfl rfl ?_
  dsimp only [List.set]
  refine ev_iconst (v := iI 0) (q := 9) dT_needs_8 rfl rfl ?_
  refine ev_istore_n 2 (q := 10) dT_needs_9 rfl (by decide) rfl rfl ?_
  dsimp only [List.set]
  rw [show cT_needs γ t = lT_needs_10 γ t 4 0 (cH_bit γ (γ 20 t)) from by rw [cT_needs]]
  exact eT_needs_10 hc t hp0 4 0 (cH_bit γ (γ 20 t))  (by omega) (by omega) (by omega)

theorem bT_needs {g : z_Gl} {γ : z_Sg} (hc : zC g γ) (t : Int) (ht : 0 ≤ t ∧ t < γ 0 0) : 0 ≤ cT_needs γ t ∧ cT_needs γ t ≤ 15 := by
  have gi : 0 ≤ γ 20 t ∧ γ 20 t ≤ 3 := hc.1 20 t (by decide)
  have gb := bH_bit γ (p := γ 20 t) ⟨by omega, by omega⟩
  have key : ∀ (j : Nat) (k nd : Int), 0 ≤ k → k + j = 4 → (0 ≤ nd ∧ nd ≤ 15) → 0 ≤ lT_needs_10 γ t j k nd ∧ lT_needs_10 γ t j k nd ≤ 15 := by
    intro j
    induction j with
    | zero => intro k nd h0 h1 h2; rw [lT_needs_10]; exact h2
    | succ j ih =>
      intro k nd h0 h1 h2
      have gb := bH_bit γ (p := k) ⟨by omega, by omega⟩
      rw [lT_needs_10]
      split
      · exact ih _ _ (by omega) (by omega) h2
      · exact ih _ _ (by omega) (by omega) (zor_15 h2 ⟨by omega, by omega⟩)
  exact key _ _ _ (by omega) (by omega) ⟨by omega, by omega⟩

def cT_needsNobodyElse (γ : z_Sg) (t : Int) : Int := if (γ 26 t) ≠ (cH_bit γ (γ 20 t)) then 0 else 1
theorem bT_needsNobodyElse (γ : z_Sg) (t : Int) : cT_needsNobodyElse γ t = 0 ∨ cT_needsNobodyElse γ t = 1 := by
  unfold cT_needsNobodyElse
  repeat' split
  all_goals first | exact Or.inl rfl | exact Or.inr rfl
set_option maxRecDepth 100000 in
set_option maxHeartbeats 4000000 in
theorem sT_needsNobodyElse {g : z_Gl} {γ ρ : z_Sg} (hc : zC g γ) (t : Int) (hp0 : 0 ≤ t ∧ t < γ 0 0) : z_Sp mT_needsNobodyElse (1, 20) 0 0 [.ref (g.1 t)] (zH g γ ρ) (fun r M' => r = some (zi (cT_needsNobodyElse γ t)) ∧ M' = zH g γ ρ) := by
  refine z_Sp_of (L := [.ref (g.1 t)]) (by decide) rfl rfl rfl (Nat.le_of_ble_eq_true rfl) ?_
  refine ev_aload_n 0 (q := 1) dT_needsNobodyElse_0 rfl (by rfl) rfl ?_
  refine ev_get (q := 4) (v := zi (γ 26 t)) dT_needsNobodyElse_1 fT_79 (at_T hc.2.1 hp0) rfl rfl ?_
  have g1 : 0 ≤ γ 26 t ∧ γ 26 t ≤ 15 := hc.1 26 t (by decide)
  refine ev_aload_n 0 (q := 5) dT_needsNobodyElse_4 rfl (by rfl) rfl ?_
  refine ev_get (q := 8) (v := zi (γ 20 t)) dT_needsNobodyElse_5 fT_15 (at_T hc.2.1 hp0) rfl rfl ?_
  have g2 : 0 ≤ γ 20 t ∧ γ 20 t ≤ 3 := hc.1 20 t (by decide)
  refine cv_N (As := [_]) (q := 11) dT_needsNobodyElse_8 kT_46 rfl (Nat.le_of_ble_eq_true rfl) rfl rfl rfl (by decide) (sH_bit hc (γ 20 t) ⟨by omega, by omega⟩ ) ?_
  have g3 := bH_bit γ (p := (γ 20 t)) ⟨by omega, by omega⟩
  refine zr_icmp_ne (t := 18) (q := 14) dT_needsNobodyElse_11 rfl rfl ⟨by omega, by omega⟩ ⟨by omega, by omega⟩ (fun h4 => ?_) (fun h4 => ?_)
  · refine ev_iconst (v := iI 0) (q := 19) dT_needsNobodyElse_18 rfl rfl ?_
    exact zr_zret dT_needsNobodyElse_19 rfl (by omega) ⟨by rw [cT_needsNobodyElse, if_pos h4], rfl⟩
  · refine ev_iconst (v := iI 1) (q := 15) dT_needsNobodyElse_14 rfl rfl ?_
    refine ev_goto (t := 19) (q := 19) dT_needsNobodyElse_15 rfl rfl ?_
    exact zr_zret dT_needsNobodyElse_19 rfl (by omega) ⟨by rw [cT_needsNobodyElse, if_neg (fun z => z h4)], rfl⟩

def cT_allowsInput (γ : z_Sg) (t s : Int) : Int := if (cS_isBound γ s) = 0 then if (γ 34 s) ≠ 2 then 1 else if (γ 22 t) < (γ 37 s) then 0 else 1 else if (cL_holds γ (2 * t) (cS_boundNumber γ s)) ≠ 0 then if (γ 34 s) ≠ 2 then 1 else if (γ 22 t) < (γ 37 s) then 0 else 1 else 0
theorem bT_allowsInput (γ : z_Sg) (t s : Int) : cT_allowsInput γ t s = 0 ∨ cT_allowsInput γ t s = 1 := by
  unfold cT_allowsInput
  repeat' split
  all_goals first | exact Or.inl rfl | exact Or.inr rfl
set_option maxRecDepth 100000 in
set_option maxHeartbeats 4000000 in
theorem sT_allowsInput {g : z_Gl} {γ ρ : z_Sg} (hc : zC g γ) (t s : Int) (hp0 : 0 ≤ t ∧ t < γ 0 0) (hp1 : zEx γ s) : z_Sp mT_allowsInput (2, 40) 0 0 [.ref (g.1 t), .ref (g.2.2.1 s)] (zH g γ ρ) (fun r M' => r = some (zi (cT_allowsInput γ t s)) ∧ M' = zH g γ ρ) := by
  refine z_Sp_of (L := [.ref (g.1 t), .ref (g.2.2.1 s)]) (by decide) rfl rfl rfl (Nat.le_of_ble_eq_true rfl) ?_
  refine ev_aload_n 1 (q := 1) dT_allowsInput_0 rfl (by rfl) rfl ?_
  refine cv_V (As := []) (q := 4) dT_allowsInput_1 kT_101 (at_S hc.2.1 hp1) rfl rfl (Nat.le_of_ble_eq_true rfl) rfl rfl rfl (by decide) (sS_isBound hc s hp1 ) ?_
  have g1 : (cS_isBound γ s) = 0 ∨ (cS_isBound γ s) = 1 := bS_isBound _ _
  refine zr_if_eq (t := 23) (q := 7) dT_allowsInput_4 rfl rfl ⟨by omega, by omega⟩ (fun h2 => ?_) (fun h2 => ?_)
  · refine ev_aload_n 1 (q := 24) dT_allowsInput_23 rfl (by rfl) rfl ?_
    refine ev_get (q := 27) (v := zi (γ 34 s)) dT_allowsInput_24 fT_111 (at_S hc.2.1 hp1) rfl rfl ?_
    have g3 : 0 ≤ γ 34 s ∧ γ 34 s ≤ 2 := hc.1 34 s (by decide)
    refine ev_iconst (v := iI 2) (q := 28) dT_allowsInput_27 rfl rfl ?_
    refine zr_icmp_ne (t := 42) (q := 31) dT_allowsInput_28 rfl rfl ⟨by omega, by omega⟩ ⟨by omega, by omega⟩ (fun h4 => ?_) (fun h4 => ?_)
    · refine ev_iconst (v := iI 1) (q := 43) dT_allowsInput_42 rfl rfl ?_
      refine ev_goto (t := 47) (q := 47) dT_allowsInput_43 rfl rfl ?_
      exact zr_zret dT_allowsInput_47 rfl (by omega) ⟨by rw [cT_allowsInput, if_pos h2, if_pos h4], rfl⟩
    · refine ev_aload_n 1 (q := 32) dT_allowsInput_31 rfl (by rfl) rfl ?_
      refine ev_get (q := 35) (v := zi (γ 37 s)) dT_allowsInput_32 fT_114 (at_S hc.2.1 hp1) rfl rfl ?_
      have g5 : 0 ≤ γ 37 s ∧ γ 37 s ≤ 1000 := hc.1 37 s (by decide)
      refine ev_aload_n 0 (q := 36) dT_allowsInput_35 rfl (by rfl) rfl ?_
      refine ev_get (q := 39) (v := zi (γ 22 t)) dT_allowsInput_36 fT_21 (at_T hc.2.1 hp0) rfl rfl ?_
      have g6 : 0 ≤ γ 22 t ∧ γ 22 t ≤ 1000000 := hc.1 22 t (by decide)
      refine zr_icmp_gt (t := 46) (q := 42) dT_allowsInput_39 rfl rfl ⟨by omega, by omega⟩ ⟨by omega, by omega⟩ (fun h7 => ?_) (fun h7 => ?_)
      · refine ev_iconst (v := iI 0) (q := 47) dT_allowsInput_46 rfl rfl ?_
        exact zr_zret dT_allowsInput_47 rfl (by omega) ⟨by rw [cT_allowsInput, if_pos h2, if_neg (fun z => z h4), if_pos h7], rfl⟩
      · refine ev_iconst (v := iI 1) (q := 43) dT_allowsInput_42 rfl rfl ?_
        refine ev_goto (t := 47) (q := 47) dT_allowsInput_43 rfl rfl ?_
        exact zr_zret dT_allowsInput_47 rfl (by omega) ⟨by rw [cT_allowsInput, if_pos h2, if_neg (fun z => z h4), if_neg (Int.not_lt.mpr h7)], rfl⟩
  · refine ev_aload_n 0 (q := 8) dT_allowsInput_7 rfl (by rfl) rfl ?_
    refine ev_get (q := 11) dT_allowsInput_8 fT_30 (at_T hc.2.1 hp0) (by rfl) rfl ?_
    refine ev_aload_n 1 (q := 12) dT_allowsInput_11 rfl (by rfl) rfl ?_
    refine cv_V (As := []) (q := 15) dT_allowsInput_12 kT_104 (at_S hc.2.1 hp1) rfl rfl (Nat.le_of_ble_eq_true rfl) rfl rfl rfl (by decide) (sS_boundNumber hc s hp1 ) ?_
    have g8 := bS_boundNumber hc s hp1 
    refine cv_V (As := [_]) (q := 18) dT_allowsInput_15 kT_107 (at_L hc.2.1 (zl0 hp0)) rfl rfl (Nat.le_of_ble_eq_true rfl) rfl rfl rfl (by decide) (sL_holds hc (2 * t) (cS_boundNumber γ s) (zl0 hp0) ⟨by omega, by omega⟩ ) ?_
    have g9 : (cL_holds γ (2 * t) (cS_boundNumber γ s)) = 0 ∨ (cL_holds γ (2 * t) (cS_boundNumber γ s)) = 1 := bL_holds _ _ _
    refine zr_if_ne (t := 23) (q := 21) dT_allowsInput_18 rfl rfl ⟨by omega, by omega⟩ (fun h10 => ?_) (fun h10 => ?_)
    · refine ev_aload_n 1 (q := 24) dT_allowsInput_23 rfl (by rfl) rfl ?_
      refine ev_get (q := 27) (v := zi (γ 34 s)) dT_allowsInput_24 fT_111 (at_S hc.2.1 hp1) rfl rfl ?_
      have g11 : 0 ≤ γ 34 s ∧ γ 34 s ≤ 2 := hc.1 34 s (by decide)
      refine ev_iconst (v := iI 2) (q := 28) dT_allowsInput_27 rfl rfl ?_
      refine zr_icmp_ne (t := 42) (q := 31) dT_allowsInput_28 rfl rfl ⟨by omega, by omega⟩ ⟨by omega, by omega⟩ (fun h12 => ?_) (fun h12 => ?_)
      · refine ev_iconst (v := iI 1) (q := 43) dT_allowsInput_42 rfl rfl ?_
        refine ev_goto (t := 47) (q := 47) dT_allowsInput_43 rfl rfl ?_
        exact zr_zret dT_allowsInput_47 rfl (by omega) ⟨by rw [cT_allowsInput, if_neg h2, if_pos h10, if_pos h12], rfl⟩
      · refine ev_aload_n 1 (q := 32) dT_allowsInput_31 rfl (by rfl) rfl ?_
        refine ev_get (q := 35) (v := zi (γ 37 s)) dT_allowsInput_32 fT_114 (at_S hc.2.1 hp1) rfl rfl ?_
        have g13 : 0 ≤ γ 37 s ∧ γ 37 s ≤ 1000 := hc.1 37 s (by decide)
        refine ev_aload_n 0 (q := 36) dT_allowsInput_35 rfl (by rfl) rfl ?_
        refine ev_get (q := 39) (v := zi (γ 22 t)) dT_allowsInput_36 fT_21 (at_T hc.2.1 hp0) rfl rfl ?_
        have g14 : 0 ≤ γ 22 t ∧ γ 22 t ≤ 1000000 := hc.1 22 t (by decide)
        refine zr_icmp_gt (t := 46) (q := 42) dT_allowsInput_39 rfl rfl ⟨by omega, by omega⟩ ⟨by omega, by omega⟩ (fun h15 => ?_) (fun h15 => ?_)
        · refine ev_iconst (v := iI 0) (q := 47) dT_allowsInput_46 rfl rfl ?_
          exact zr_zret dT_allowsInput_47 rfl (by omega) ⟨by rw [cT_allowsInput, if_neg h2, if_pos h10, if_neg (fun z => z h12), if_pos h15], rfl⟩
        · refine ev_iconst (v := iI 1) (q := 43) dT_allowsInput_42 rfl rfl ?_
          refine ev_goto (t := 47) (q := 47) dT_allowsInput_43 rfl rfl ?_
          exact zr_zret dT_allowsInput_47 rfl (by omega) ⟨by rw [cT_allowsInput, if_neg h2, if_pos h10, if_neg (fun z => z h12), if_neg (Int.not_lt.mpr h15)], rfl⟩
    · refine ev_iconst (v := iI 0) (q := 22) dT_allowsInput_21 rfl rfl ?_
      exact zr_zret dT_allowsInput_22 rfl (by omega) ⟨by rw [cT_allowsInput, if_neg h2, if_neg (fun z => z h10)], rfl⟩

def lT_isValid_24 (γ : z_Sg) (t : Int) : Nat → Int → Int
  | 0, k => 1
  | j + 1, k => if (cT_allowsInput γ t (γ 33 (4 * (2 * t) + k))) ≠ 0 then lT_isValid_24 γ t j (k + 1) else 0
theorem blT_isValid_24 (γ : z_Sg) (t : Int) : ∀ (j : Nat) (k : Int), lT_isValid_24 γ t j k = 0 ∨ lT_isValid_24 γ t j k = 1 := by
  intro j
  induction j with
  | zero =>
    intro k
    rw [lT_isValid_24]
    repeat' split
    all_goals first | exact Or.inl rfl | exact Or.inr rfl
  | succ j ih =>
    intro k
    rw [lT_isValid_24]
    repeat' split
    all_goals first | exact Or.inl rfl | exact Or.inr rfl | exact ih _
set_option maxRecDepth 100000 in
set_option maxHeartbeats 4000000 in
theorem eT_isValid_24 {g : z_Gl} {γ ρ : z_Sg} (hc : zC g γ) (t : Int) (hp0 : 0 ≤ t ∧ t < γ 0 0) : ∀ (j : Nat) (k : Int), 0 ≤ k → k + j = γ 32 (2 * t) → z_Ev mT_isValid (3, 61) 0 0 24 [.ref (g.1 t), zi k] [] (zH g γ ρ) (fun r M' => r = some (zi (lT_isValid_24 γ t j k)) ∧ M' = zH g γ ρ) := by
  intro j
  induction j with
  | zero =>
    intro k  c0 c1
    refine ev_iload_n 1 (q := 25) dT_isValid_24 rfl (by rfl) rfl ?_
    refine ev_aload_n 0 (q := 26) dT_isValid_25 rfl (by rfl) rfl ?_
    refine ev_get (q := 29) dT_isValid_26 fT_30 (at_T hc.2.1 hp0) (by rfl) rfl ?_
    refine ev_get (q := 32) (v := zi (γ 32 (2 * t))) dT_isValid_29 fT_56 (at_L hc.2.1 (zl0 hp0)) rfl rfl ?_
    have g1 : 0 ≤ γ 32 (2 * t) ∧ γ 32 (2 * t) ≤ 4 := hc.1 32 (2 * t) (by decide)
    refine zr_icmp_ge (t := 59) (q := 35) dT_isValid_32 rfl rfl ⟨by omega, by omega⟩ ⟨by omega, by omega⟩ (fun h2 => ?_) (fun h2 => ?_)
    · refine ev_iconst (v := iI 1) (q := 60) dT_isValid_59 rfl rfl ?_
      exact zr_zret dT_isValid_60 rfl (by omega) ⟨by rw [lT_isValid_24], rfl⟩
    · exfalso
      omega
  | succ j ih =>
    intro k  c0 c1
    refine ev_iload_n 1 (q := 25) dT_isValid_24 rfl (by rfl) rfl ?_
    refine ev_aload_n 0 (q := 26) dT_isValid_25 rfl (by rfl) rfl ?_
    refine ev_get (q := 29) dT_isValid_26 fT_30 (at_T hc.2.1 hp0) (by rfl) rfl ?_
    refine ev_get (q := 32) (v := zi (γ 32 (2 * t))) dT_isValid_29 fT_56 (at_L hc.2.1 (zl0 hp0)) rfl rfl ?_
    have g1 : 0 ≤ γ 32 (2 * t) ∧ γ 32 (2 * t) ≤ 4 := hc.1 32 (2 * t) (by decide)
    refine zr_icmp_ge (t := 59) (q := 35) dT_isValid_32 rfl rfl ⟨by omega, by omega⟩ ⟨by omega, by omega⟩ (fun h2 => ?_) (fun h2 => ?_)
    · exfalso
      omega
    · refine ev_aload_n 0 (q := 36) dT_isValid_35 rfl (by rfl) rfl ?_
      refine ev_aload_n 0 (q := 37) dT_isValid_36 rfl (by rfl) rfl ?_
      refine ev_get (q := 40) dT_isValid_37 fT_30 (at_T hc.2.1 hp0) (by rfl) rfl ?_
      refine ev_get (q := 43) dT_isValid_40 fT_93 (at_L hc.2.1 (zl0 hp0)) (by rfl) rfl ?_
      refine ev_iload_n 1 (q := 44) dT_isValid_43 rfl (by rfl) rfl ?_
      refine zr_aald (q := 45) dT_isValid_44 (fun _ => ⟨_, rfl⟩) (at_E hc.2.1 (zl0 hp0)) (by decide) ⟨by omega, by omega⟩ (if_pos ⟨by omega, by omega⟩) rfl ?_
      have s3 : zEx γ (γ 33 (4 * (2 * t) + k)) := hc.2.2.1 (2 * t) k (zl0 hp0).1 (zl0 hp0).2 (by omega) (by omega)
      have g4 : 0 ≤ γ 33 (4 * (2 * t) + k) ∧ γ 33 (4 * (2 * t) + k) ≤ 79 := hc.1 33 _ (by decide)
      refine cv_V (As := [_]) (q := 48) dT_isValid_45 kT_97 (at_T hc.2.1 hp0) rfl rfl (Nat.le_of_ble_eq_true rfl) rfl rfl rfl (by decide) (sT_allowsInput hc t (γ 33 (4 * (2 * t) + k)) hp0 s3 ) ?_
      have g5 : (cT_allowsInput γ t (γ 33 (4 * (2 * t) + k))) = 0 ∨ (cT_allowsInput γ t (γ 33 (4 * (2 * t) + k))) = 1 := bT_allowsInput _ _ _
      refine zr_if_ne (t := 53) (q := 51) dT_isValid_48 rfl rfl ⟨by omega, by omega⟩ (fun h6 => ?_) (fun h6 => ?_)
      · refine zr_iinc (q := 56) dT_isValid_53 (by rfl) (by decide) rfl rfl ?_
        dsimp only [List.set]
        refine ev_goto (t := 24) (q := 24) dT_isValid_56 rfl rfl ?_
        rw [show lT_isValid_24 γ t (j + 1) k = lT_isValid_24 γ t j (k + 1) from by rw [lT_isValid_24, if_pos h6]]
        exact ih (k + 1)  (by omega) (by omega)
      · refine ev_iconst (v := iI 0) (q := 52) dT_isValid_51 rfl rfl ?_
        exact zr_zret dT_isValid_52 rfl (by omega) ⟨by rw [lT_isValid_24, if_neg (fun z => z h6)], rfl⟩
def cT_isValid (γ : z_Sg) (t : Int) : Int := if (γ 32 (2 * t)) ≠ 0 then lT_isValid_24 γ t (γ 32 (2 * t)).toNat 0 else if (γ 32 (2 * t + 1)) ≠ 0 then lT_isValid_24 γ t (γ 32 (2 * t)).toNat 0 else 0
theorem bT_isValid (γ : z_Sg) (t : Int) : cT_isValid γ t = 0 ∨ cT_isValid γ t = 1 := by
  unfold cT_isValid
  repeat' split
  all_goals first | exact Or.inl rfl | exact Or.inr rfl | exact blT_isValid_24 _ _ _ _
set_option maxRecDepth 100000 in
set_option maxHeartbeats 4000000 in
theorem sT_isValid {g : z_Gl} {γ ρ : z_Sg} (hc : zC g γ) (t : Int) (hp0 : 0 ≤ t ∧ t < γ 0 0) : z_Sp mT_isValid (3, 61) 0 0 [.ref (g.1 t)] (zH g γ ρ) (fun r M' => r = some (zi (cT_isValid γ t)) ∧ M' = zH g γ ρ) := by
  refine z_Sp_of (L := [.ref (g.1 t), .float 0]) (by decide) rfl rfl rfl (Nat.le_of_ble_eq_true rfl) ?_
  refine ev_aload_n 0 (q := 1) dT_isValid_0 rfl (by rfl) rfl ?_
  refine ev_get (q := 4) dT_isValid_1 fT_30 (at_T hc.2.1 hp0) (by rfl) rfl ?_
  refine ev_get (q := 7) (v := zi (γ 32 (2 * t))) dT_isValid_4 fT_56 (at_L hc.2.1 (zl0 hp0)) rfl rfl ?_
  have g1 : 0 ≤ γ 32 (2 * t) ∧ γ 32 (2 * t) ≤ 4 := hc.1 32 (2 * t) (by decide)
  refine zr_if_ne (t := 22) (q := 10) dT_isValid_7 rfl rfl ⟨by omega, by omega⟩ (fun h2 => ?_) (fun h2 => ?_)
  · refine ev_iconst (v := iI 0) (q := 23) dT_isValid_22 rfl rfl ?_
    refine ev_istore_n 1 (q := 24) dT_isValid_23 rfl (by decide) rfl rfl ?_
    dsimp only [List.set]
    have g3 : 0 ≤ γ 32 (2 * t) ∧ γ 32 (2 * t) ≤ 4 := hc.1 32 (2 * t) (by decide)
    rw [show cT_isValid γ t = lT_isValid_24 γ t (γ 32 (2 * t)).toNat 0 from by rw [cT_isValid, if_pos h2]]
    exact eT_isValid_24 hc t hp0 (γ 32 (2 * t)).toNat 0  (by omega) (by omega)
  · refine ev_aload_n 0 (q := 11) dT_isValid_10 rfl (by rfl) rfl ?_
    refine ev_get (q := 14) dT_isValid_11 fT_34 (at_T hc.2.1 hp0) (by rfl) rfl ?_
    refine ev_get (q := 17) (v := zi (γ 32 (2 * t + 1))) dT_isValid_14 fT_56 (at_L hc.2.1 (zl1 hp0)) rfl rfl ?_
    have g4 : 0 ≤ γ 32 (2 * t + 1) ∧ γ 32 (2 * t + 1) ≤ 4 := hc.1 32 (2 * t + 1) (by decide)
    refine zr_if_ne (t := 22) (q := 20) dT_isValid_17 rfl rfl ⟨by omega, by omega⟩ (fun h5 => ?_) (fun h5 => ?_)
    · refine ev_iconst (v := iI 0) (q := 23) dT_isValid_22 rfl rfl ?_
      refine ev_istore_n 1 (q := 24) dT_isValid_23 rfl (by decide) rfl rfl ?_
      dsimp only [List.set]
      have g6 : 0 ≤ γ 32 (2 * t) ∧ γ 32 (2 * t) ≤ 4 := hc.1 32 (2 * t) (by decide)
      rw [show cT_isValid γ t = lT_isValid_24 γ t (γ 32 (2 * t)).toNat 0 from by rw [cT_isValid, if_neg (fun z => z h2), if_pos h5]]
      exact eT_isValid_24 hc t hp0 (γ 32 (2 * t)).toNat 0  (by omega) (by omega)
    · refine ev_iconst (v := iI 0) (q := 21) dT_isValid_20 rfl rfl ?_
      exact zr_zret dT_isValid_21 rfl (by omega) ⟨by rw [cT_isValid, if_neg (fun z => z h2), if_neg (fun z => z h5)], rfl⟩

def cT_inputLeaf (γ : z_Sg) (t i : Int) : Int := if i < 0 then 0 else if (γ 32 (2 * t)) ≤ i then 0 else (1 + (γ 33 (4 * (2 * t) + i)))
set_option maxRecDepth 100000 in
set_option maxHeartbeats 4000000 in
theorem sT_inputLeaf {g : z_Gl} {γ ρ : z_Sg} (hc : zC g γ) (t i : Int) (hp0 : 0 ≤ t ∧ t < γ 0 0) (hp1 : z_rg i) : z_Sp mT_inputLeaf (0, 0) 0 0 [.ref (g.1 t), zi i] (zH g γ ρ) (fun r M' => r = some (zi (cT_inputLeaf γ t i)) ∧ M' = zH g γ ρ) := by
  refine z_Sp_of (L := [.ref (g.1 t), zi i]) (by decide) rfl rfl rfl (Nat.le_of_ble_eq_true rfl) ?_
  refine ev_iload_n 1 (q := 1) dT_inputLeaf_0 rfl (by rfl) rfl ?_
  refine zr_if_lt (t := 32) (q := 4) dT_inputLeaf_1 rfl rfl ⟨by omega, by omega⟩ (fun h1 => ?_) (fun h1 => ?_)
  · refine ev_iconst (v := iI 0) (q := 33) dT_inputLeaf_32 rfl rfl ?_
    exact zr_iret dT_inputLeaf_33 rfl ⟨by rw [cT_inputLeaf, if_pos h1], rfl⟩
  · refine ev_iload_n 1 (q := 5) dT_inputLeaf_4 rfl (by rfl) rfl ?_
    refine ev_aload_n 0 (q := 6) dT_inputLeaf_5 rfl (by rfl) rfl ?_
    refine ev_get (q := 9) dT_inputLeaf_6 fT_30 (at_T hc.2.1 hp0) (by rfl) rfl ?_
    refine ev_get (q := 12) (v := zi (γ 32 (2 * t))) dT_inputLeaf_9 fT_56 (at_L hc.2.1 (zl0 hp0)) rfl rfl ?_
    have g2 : 0 ≤ γ 32 (2 * t) ∧ γ 32 (2 * t) ≤ 4 := hc.1 32 (2 * t) (by decide)
    refine zr_icmp_ge (t := 32) (q := 15) dT_inputLeaf_12 rfl rfl ⟨by omega, by omega⟩ ⟨by omega, by omega⟩ (fun h3 => ?_) (fun h3 => ?_)
    · refine ev_iconst (v := iI 0) (q := 33) dT_inputLeaf_32 rfl rfl ?_
      exact zr_iret dT_inputLeaf_33 rfl ⟨by rw [cT_inputLeaf, if_neg (Int.not_lt.mpr h1), if_pos h3], rfl⟩
    · refine ev_iconst (v := iI 1) (q := 16) dT_inputLeaf_15 rfl rfl ?_
      refine ev_aload_n 0 (q := 17) dT_inputLeaf_16 rfl (by rfl) rfl ?_
      refine ev_get (q := 20) dT_inputLeaf_17 fT_30 (at_T hc.2.1 hp0) (by rfl) rfl ?_
      refine ev_get (q := 23) dT_inputLeaf_20 fT_93 (at_L hc.2.1 (zl0 hp0)) (by rfl) rfl ?_
      refine ev_iload_n 1 (q := 24) dT_inputLeaf_23 rfl (by rfl) rfl ?_
      refine zr_aald (q := 25) dT_inputLeaf_24 (fun _ => ⟨_, rfl⟩) (at_E hc.2.1 (zl0 hp0)) (by decide) ⟨by omega, by omega⟩ (if_pos ⟨by omega, by omega⟩) rfl ?_
      have s4 : zEx γ (γ 33 (4 * (2 * t) + i)) := hc.2.2.1 (2 * t) i (zl0 hp0).1 (zl0 hp0).2 (by omega) (by omega)
      have g5 : 0 ≤ γ 33 (4 * (2 * t) + i) ∧ γ 33 (4 * (2 * t) + i) ≤ 79 := hc.1 33 _ (by decide)
      refine ev_get (q := 28) dT_inputLeaf_25 fT_153 (at_S hc.2.1 s4) (by rfl) rfl ?_
      refine zr_iadd (q := 29) dT_inputLeaf_28 rfl ?_
      refine ev_goto (t := 33) (q := 33) dT_inputLeaf_29 rfl rfl ?_
      exact zr_iret dT_inputLeaf_33 rfl ⟨by rw [cT_inputLeaf, if_neg (Int.not_lt.mpr h1), if_neg (Int.not_le.mpr h3)], rfl⟩

def cT_outputLeaf (γ : z_Sg) (t i : Int) : Int := if i < 0 then 0 else if (γ 32 (2 * t + 1)) ≤ i then 0 else (cS_leafValue γ (γ 33 (4 * (2 * t + 1) + i)))
set_option maxRecDepth 100000 in
set_option maxHeartbeats 4000000 in
theorem sT_outputLeaf {g : z_Gl} {γ ρ : z_Sg} (hc : zC g γ) (t i : Int) (hp0 : 0 ≤ t ∧ t < γ 0 0) (hp1 : z_rg i) : z_Sp mT_outputLeaf (1, 20) 0 0 [.ref (g.1 t), zi i] (zH g γ ρ) (fun r M' => r = some (zi (cT_outputLeaf γ t i)) ∧ M' = zH g γ ρ) := by
  refine z_Sp_of (L := [.ref (g.1 t), zi i]) (by decide) rfl rfl rfl (Nat.le_of_ble_eq_true rfl) ?_
  refine ev_iload_n 1 (q := 1) dT_outputLeaf_0 rfl (by rfl) rfl ?_
  refine zr_if_lt (t := 30) (q := 4) dT_outputLeaf_1 rfl rfl ⟨by omega, by omega⟩ (fun h1 => ?_) (fun h1 => ?_)
  · refine ev_iconst (v := iI 0) (q := 31) dT_outputLeaf_30 rfl rfl ?_
    exact zr_iret dT_outputLeaf_31 rfl ⟨by rw [cT_outputLeaf, if_pos h1], rfl⟩
  · refine ev_iload_n 1 (q := 5) dT_outputLeaf_4 rfl (by rfl) rfl ?_
    refine ev_aload_n 0 (q := 6) dT_outputLeaf_5 rfl (by rfl) rfl ?_
    refine ev_get (q := 9) dT_outputLeaf_6 fT_34 (at_T hc.2.1 hp0) (by rfl) rfl ?_
    refine ev_get (q := 12) (v := zi (γ 32 (2 * t + 1))) dT_outputLeaf_9 fT_56 (at_L hc.2.1 (zl1 hp0)) rfl rfl ?_
    have g2 : 0 ≤ γ 32 (2 * t + 1) ∧ γ 32 (2 * t + 1) ≤ 4 := hc.1 32 (2 * t + 1) (by decide)
    refine zr_icmp_ge (t := 30) (q := 15) dT_outputLeaf_12 rfl rfl ⟨by omega, by omega⟩ ⟨by omega, by omega⟩ (fun h3 => ?_) (fun h3 => ?_)
    · refine ev_iconst (v := iI 0) (q := 31) dT_outputLeaf_30 rfl rfl ?_
      exact zr_iret dT_outputLeaf_31 rfl ⟨by rw [cT_outputLeaf, if_neg (Int.not_lt.mpr h1), if_pos h3], rfl⟩
    · refine ev_aload_n 0 (q := 16) dT_outputLeaf_15 rfl (by rfl) rfl ?_
      refine ev_get (q := 19) dT_outputLeaf_16 fT_34 (at_T hc.2.1 hp0) (by rfl) rfl ?_
      refine ev_get (q := 22) dT_outputLeaf_19 fT_93 (at_L hc.2.1 (zl1 hp0)) (by rfl) rfl ?_
      refine ev_iload_n 1 (q := 23) dT_outputLeaf_22 rfl (by rfl) rfl ?_
      refine zr_aald (q := 24) dT_outputLeaf_23 (fun _ => ⟨_, rfl⟩) (at_E hc.2.1 (zl1 hp0)) (by decide) ⟨by omega, by omega⟩ (if_pos ⟨by omega, by omega⟩) rfl ?_
      have s4 : zEx γ (γ 33 (4 * (2 * t + 1) + i)) := hc.2.2.1 (2 * t + 1) i (zl1 hp0).1 (zl1 hp0).2 (by omega) (by omega)
      have g5 : 0 ≤ γ 33 (4 * (2 * t + 1) + i) ∧ γ 33 (4 * (2 * t + 1) + i) ≤ 79 := hc.1 33 _ (by decide)
      refine cv_V (As := []) (q := 27) dT_outputLeaf_24 kT_154 (at_S hc.2.1 s4) rfl rfl (Nat.le_of_ble_eq_true rfl) rfl rfl rfl (by decide) (sS_leafValue hc (γ 33 (4 * (2 * t + 1) + i)) s4 ) ?_
      refine ev_goto (t := 31) (q := 31) dT_outputLeaf_27 rfl rfl ?_
      exact zr_iret dT_outputLeaf_31 rfl ⟨by rw [cT_outputLeaf, if_neg (Int.not_lt.mpr h1), if_neg (Int.not_le.mpr h3)], rfl⟩

def cT_leaf (γ : z_Sg) (t i : Int) : Int := if (i < 0 ∨ 15 < i) then 0 else if i = 0 then (γ 21 t) else if i = 1 then (γ 22 t) else if i = 2 then (γ 23 t) else if i = 3 then (cT_inputLeaf γ t (i - 3)) else if i = 4 then (cT_inputLeaf γ t (i - 3)) else if i = 5 then (cT_inputLeaf γ t (i - 3)) else if i = 6 then (cT_inputLeaf γ t (i - 3)) else if i = 7 then (γ 20 t) else if i = 8 then (cT_outputLeaf γ t (i - 8)) else if i = 9 then (cT_outputLeaf γ t (i - 8)) else if i = 10 then (cT_outputLeaf γ t (i - 8)) else if i = 11 then (cT_outputLeaf γ t (i - 8)) else if i = 12 then (cT_needs γ t) else if i = 13 then 0 else if i = 14 then 0 else t
set_option maxRecDepth 100000 in
set_option maxHeartbeats 4000000 in
theorem sT_leaf {g : z_Gl} {γ ρ : z_Sg} (hc : zC g γ) (t i : Int) (hp0 : 0 ≤ t ∧ t < γ 0 0) (hp1 : 0 ≤ i ∧ i ≤ 15) : z_Sp mT_leaf (5, 113) 0 0 [.ref (g.1 t), zi i] (zH g γ ρ) (fun r M' => r = some (zi (cT_leaf γ t i)) ∧ M' = zH g γ ρ) := by
  refine z_Sp_of (L := [.ref (g.1 t), zi i]) (by decide) rfl rfl rfl (Nat.le_of_ble_eq_true rfl) ?_
  refine ev_iload_n 1 (q := 1) dT_leaf_0 rfl (by rfl) rfl ?_
  by_cases h1 : (i < 0 ∨ 15 < i)
  · refine ev_tableOut (t := 127) (q := 127) dT_leaf_1 (by rw [iI_toInt ⟨by omega, by omega⟩]; omega) rfl rfl ?_
    refine ev_iconst (v := iI 0) (q := 128) dT_leaf_127 rfl rfl ?_
    exact zr_iret dT_leaf_128 rfl ⟨by rw [cT_leaf, if_pos h1], rfl⟩
  · by_cases h2 : i = 0
    · refine ev_tableIn (t := 80) (q := 80) (off := 79) dT_leaf_1 (by rw [iI_toInt ⟨by omega, by omega⟩]; omega) (by rw [iI_toInt ⟨by omega, by omega⟩]; omega) (by rw [iI_toInt ⟨by omega, by omega⟩]; rw [show i = 0 by omega]; rfl) rfl rfl ?_
      refine ev_aload_n 0 (q := 81) dT_leaf_80 rfl (by rfl) rfl ?_
      refine ev_get (q := 84) (v := zi (γ 21 t)) dT_leaf_81 fT_18 (at_T hc.2.1 hp0) rfl rfl ?_
      have g3 : 0 ≤ γ 21 t ∧ γ 21 t ≤ 5 := hc.1 21 t (by decide)
      exact zr_iret dT_leaf_84 rfl ⟨by rw [cT_leaf, if_neg h1, if_pos h2], rfl⟩
    · by_cases h4 : i = 1
      · refine ev_tableIn (t := 85) (q := 85) (off := 84) dT_leaf_1 (by rw [iI_toInt ⟨by omega, by omega⟩]; omega) (by rw [iI_toInt ⟨by omega, by omega⟩]; omega) (by rw [iI_toInt ⟨by omega, by omega⟩]; rw [show i = 1 by omega]; rfl) rfl rfl ?_
        refine ev_aload_n 0 (q := 86) dT_leaf_85 rfl (by rfl) rfl ?_
        refine ev_get (q := 89) (v := zi (γ 22 t)) dT_leaf_86 fT_21 (at_T hc.2.1 hp0) rfl rfl ?_
        have g5 : 0 ≤ γ 22 t ∧ γ 22 t ≤ 1000000 := hc.1 22 t (by decide)
        exact zr_iret dT_leaf_89 rfl ⟨by rw [cT_leaf, if_neg h1, if_neg h2, if_pos h4], rfl⟩
      · by_cases h6 : i = 2
        · refine ev_tableIn (t := 90) (q := 90) (off := 89) dT_leaf_1 (by rw [iI_toInt ⟨by omega, by omega⟩]; omega) (by rw [iI_toInt ⟨by omega, by omega⟩]; omega) (by rw [iI_toInt ⟨by omega, by omega⟩]; rw [show i = 2 by omega]; rfl) rfl rfl ?_
          refine ev_aload_n 0 (q := 91) dT_leaf_90 rfl (by rfl) rfl ?_
          refine ev_get (q := 94) (v := zi (γ 23 t)) dT_leaf_91 fT_24 (at_T hc.2.1 hp0) rfl rfl ?_
          have g7 : 0 ≤ γ 23 t ∧ γ 23 t ≤ 1000000 := hc.1 23 t (by decide)
          exact zr_iret dT_leaf_94 rfl ⟨by rw [cT_leaf, if_neg h1, if_neg h2, if_neg h4, if_pos h6], rfl⟩
        · by_cases h8 : i = 3
          · refine ev_tableIn (t := 95) (q := 95) (off := 94) dT_leaf_1 (by rw [iI_toInt ⟨by omega, by omega⟩]; omega) (by rw [iI_toInt ⟨by omega, by omega⟩]; omega) (by rw [iI_toInt ⟨by omega, by omega⟩]; rw [show i = 3 by omega]; rfl) rfl rfl ?_
            refine ev_aload_n 0 (q := 96) dT_leaf_95 rfl (by rfl) rfl ?_
            refine ev_iload_n 1 (q := 97) dT_leaf_96 rfl (by rfl) rfl ?_
            refine ev_iconst (v := iI 3) (q := 98) dT_leaf_97 rfl rfl ?_
            refine zr_isub (q := 99) dT_leaf_98 rfl ?_
            refine cv_V (As := [_]) (q := 102) dT_leaf_99 kT_147 (at_T hc.2.1 hp0) rfl rfl (Nat.le_of_ble_eq_true rfl) rfl rfl rfl (by decide) (sT_inputLeaf hc t (i - 3) hp0 ⟨by omega, by omega⟩ ) ?_
            exact zr_iret dT_leaf_102 rfl ⟨by rw [cT_leaf, if_neg h1, if_neg h2, if_neg h4, if_neg h6, if_pos h8], rfl⟩
          · by_cases h10 : i = 4
            · refine ev_tableIn (t := 95) (q := 95) (off := 94) dT_leaf_1 (by rw [iI_toInt ⟨by omega, by omega⟩]; omega) (by rw [iI_toInt ⟨by omega, by omega⟩]; omega) (by rw [iI_toInt ⟨by omega, by omega⟩]; rw [show i = 4 by omega]; rfl) rfl rfl ?_
              refine ev_aload_n 0 (q := 96) dT_leaf_95 rfl (by rfl) rfl ?_
              refine ev_iload_n 1 (q := 97) dT_leaf_96 rfl (by rfl) rfl ?_
              refine ev_iconst (v := iI 3) (q := 98) dT_leaf_97 rfl rfl ?_
              refine zr_isub (q := 99) dT_leaf_98 rfl ?_
              refine cv_V (As := [_]) (q := 102) dT_leaf_99 kT_147 (at_T hc.2.1 hp0) rfl rfl (Nat.le_of_ble_eq_true rfl) rfl rfl rfl (by decide) (sT_inputLeaf hc t (i - 3) hp0 ⟨by omega, by omega⟩ ) ?_
              exact zr_iret dT_leaf_102 rfl ⟨by rw [cT_leaf, if_neg h1, if_neg h2, if_neg h4, if_neg h6, if_neg h8, if_pos h10], rfl⟩
            · by_cases h12 : i = 5
              · refine ev_tableIn (t := 95) (q := 95) (off := 94) dT_leaf_1 (by rw [iI_toInt ⟨by omega, by omega⟩]; omega) (by rw [iI_toInt ⟨by omega, by omega⟩]; omega) (by rw [iI_toInt ⟨by omega, by omega⟩]; rw [show i = 5 by omega]; rfl) rfl rfl ?_
                refine ev_aload_n 0 (q := 96) dT_leaf_95 rfl (by rfl) rfl ?_
                refine ev_iload_n 1 (q := 97) dT_leaf_96 rfl (by rfl) rfl ?_
                refine ev_iconst (v := iI 3) (q := 98) dT_leaf_97 rfl rfl ?_
                refine zr_isub (q := 99) dT_leaf_98 rfl ?_
                refine cv_V (As := [_]) (q := 102) dT_leaf_99 kT_147 (at_T hc.2.1 hp0) rfl rfl (Nat.le_of_ble_eq_true rfl) rfl rfl rfl (by decide) (sT_inputLeaf hc t (i - 3) hp0 ⟨by omega, by omega⟩ ) ?_
                exact zr_iret dT_leaf_102 rfl ⟨by rw [cT_leaf, if_neg h1, if_neg h2, if_neg h4, if_neg h6, if_neg h8, if_neg h10, if_pos h12], rfl⟩
              · by_cases h14 : i = 6
                · refine ev_tableIn (t := 95) (q := 95) (off := 94) dT_leaf_1 (by rw [iI_toInt ⟨by omega, by omega⟩]; omega) (by rw [iI_toInt ⟨by omega, by omega⟩]; omega) (by rw [iI_toInt ⟨by omega, by omega⟩]; rw [show i = 6 by omega]; rfl) rfl rfl ?_
                  refine ev_aload_n 0 (q := 96) dT_leaf_95 rfl (by rfl) rfl ?_
                  refine ev_iload_n 1 (q := 97) dT_leaf_96 rfl (by rfl) rfl ?_
                  refine ev_iconst (v := iI 3) (q := 98) dT_leaf_97 rfl rfl ?_
                  refine zr_isub (q := 99) dT_leaf_98 rfl ?_
                  refine cv_V (As := [_]) (q := 102) dT_leaf_99 kT_147 (at_T hc.2.1 hp0) rfl rfl (Nat.le_of_ble_eq_true rfl) rfl rfl rfl (by decide) (sT_inputLeaf hc t (i - 3) hp0 ⟨by omega, by omega⟩ ) ?_
                  exact zr_iret dT_leaf_102 rfl ⟨by rw [cT_leaf, if_neg h1, if_neg h2, if_neg h4, if_neg h6, if_neg h8, if_neg h10, if_neg h12, if_pos h14], rfl⟩
                · by_cases h16 : i = 7
                  · refine ev_tableIn (t := 103) (q := 103) (off := 102) dT_leaf_1 (by rw [iI_toInt ⟨by omega, by omega⟩]; omega) (by rw [iI_toInt ⟨by omega, by omega⟩]; omega) (by rw [iI_toInt ⟨by omega, by omega⟩]; rw [show i = 7 by omega]; rfl) rfl rfl ?_
                    refine ev_aload_n 0 (q := 104) dT_leaf_103 rfl (by rfl) rfl ?_
                    refine ev_get (q := 107) (v := zi (γ 20 t)) dT_leaf_104 fT_15 (at_T hc.2.1 hp0) rfl rfl ?_
                    have g17 : 0 ≤ γ 20 t ∧ γ 20 t ≤ 3 := hc.1 20 t (by decide)
                    exact zr_iret dT_leaf_107 rfl ⟨by rw [cT_leaf, if_neg h1, if_neg h2, if_neg h4, if_neg h6, if_neg h8, if_neg h10, if_neg h12, if_neg h14, if_pos h16], rfl⟩
                  · by_cases h18 : i = 8
                    · refine ev_tableIn (t := 108) (q := 108) (off := 107) dT_leaf_1 (by rw [iI_toInt ⟨by omega, by omega⟩]; omega) (by rw [iI_toInt ⟨by omega, by omega⟩]; omega) (by rw [iI_toInt ⟨by omega, by omega⟩]; rw [show i = 8 by omega]; rfl) rfl rfl ?_
                      refine ev_aload_n 0 (q := 109) dT_leaf_108 rfl (by rfl) rfl ?_
                      refine ev_iload_n 1 (q := 110) dT_leaf_109 rfl (by rfl) rfl ?_
                      refine ev_bipush (v := iI 8) (q := 112) dT_leaf_110 (by decide) rfl ?_
                      refine zr_isub (q := 113) dT_leaf_112 rfl ?_
                      refine cv_V (As := [_]) (q := 116) dT_leaf_113 kT_150 (at_T hc.2.1 hp0) rfl rfl (Nat.le_of_ble_eq_true rfl) rfl rfl rfl (by decide) (sT_outputLeaf hc t (i - 8) hp0 ⟨by omega, by omega⟩ ) ?_
                      exact zr_iret dT_leaf_116 rfl ⟨by rw [cT_leaf, if_neg h1, if_neg h2, if_neg h4, if_neg h6, if_neg h8, if_neg h10, if_neg h12, if_neg h14, if_neg h16, if_pos h18], rfl⟩
                    · by_cases h20 : i = 9
                      · refine ev_tableIn (t := 108) (q := 108) (off := 107) dT_leaf_1 (by rw [iI_toInt ⟨by omega, by omega⟩]; omega) (by rw [iI_toInt ⟨by omega, by omega⟩]; omega) (by rw [iI_toInt ⟨by omega, by omega⟩]; rw [show i = 9 by omega]; rfl) rfl rfl ?_
                        refine ev_aload_n 0 (q := 109) dT_leaf_108 rfl (by rfl) rfl ?_
                        refine ev_iload_n 1 (q := 110) dT_leaf_109 rfl (by rfl) rfl ?_
                        refine ev_bipush (v := iI 8) (q := 112) dT_leaf_110 (by decide) rfl ?_
                        refine zr_isub (q := 113) dT_leaf_112 rfl ?_
                        refine cv_V (As := [_]) (q := 116) dT_leaf_113 kT_150 (at_T hc.2.1 hp0) rfl rfl (Nat.le_of_ble_eq_true rfl) rfl rfl rfl (by decide) (sT_outputLeaf hc t (i - 8) hp0 ⟨by omega, by omega⟩ ) ?_
                        exact zr_iret dT_leaf_116 rfl ⟨by rw [cT_leaf, if_neg h1, if_neg h2, if_neg h4, if_neg h6, if_neg h8, if_neg h10, if_neg h12, if_neg h14, if_neg h16, if_neg h18, if_pos h20], rfl⟩
                      · by_cases h22 : i = 10
                        · refine ev_tableIn (t := 108) (q := 108) (off := 107) dT_leaf_1 (by rw [iI_toInt ⟨by omega, by omega⟩]; omega) (by rw [iI_toInt ⟨by omega, by omega⟩]; omega) (by rw [iI_toInt ⟨by omega, by omega⟩]; rw [show i = 10 by omega]; rfl) rfl rfl ?_
                          refine ev_aload_n 0 (q := 109) dT_leaf_108 rfl (by rfl) rfl ?_
                          refine ev_iload_n 1 (q := 110) dT_leaf_109 rfl (by rfl) rfl ?_
                          refine ev_bipush (v := iI 8) (q := 112) dT_leaf_110 (by decide) rfl ?_
                          refine zr_isub (q := 113) dT_leaf_112 rfl ?_
                          refine cv_V (As := [_]) (q := 116) dT_leaf_113 kT_150 (at_T hc.2.1 hp0) rfl rfl (Nat.le_of_ble_eq_true rfl) rfl rfl rfl (by decide) (sT_outputLeaf hc t (i - 8) hp0 ⟨by omega, by omega⟩ ) ?_
                          exact zr_iret dT_leaf_116 rfl ⟨by rw [cT_leaf, if_neg h1, if_neg h2, if_neg h4, if_neg h6, if_neg h8, if_neg h10, if_neg h12, if_neg h14, if_neg h16, if_neg h18, if_neg h20, if_pos h22], rfl⟩
                        · by_cases h24 : i = 11
                          · refine ev_tableIn (t := 108) (q := 108) (off := 107) dT_leaf_1 (by rw [iI_toInt ⟨by omega, by omega⟩]; omega) (by rw [iI_toInt ⟨by omega, by omega⟩]; omega) (by rw [iI_toInt ⟨by omega, by omega⟩]; rw [show i = 11 by omega]; rfl) rfl rfl ?_
                            refine ev_aload_n 0 (q := 109) dT_leaf_108 rfl (by rfl) rfl ?_
                            refine ev_iload_n 1 (q := 110) dT_leaf_109 rfl (by rfl) rfl ?_
                            refine ev_bipush (v := iI 8) (q := 112) dT_leaf_110 (by decide) rfl ?_
                            refine zr_isub (q := 113) dT_leaf_112 rfl ?_
                            refine cv_V (As := [_]) (q := 116) dT_leaf_113 kT_150 (at_T hc.2.1 hp0) rfl rfl (Nat.le_of_ble_eq_true rfl) rfl rfl rfl (by decide) (sT_outputLeaf hc t (i - 8) hp0 ⟨by omega, by omega⟩ ) ?_
                            exact zr_iret dT_leaf_116 rfl ⟨by rw [cT_leaf, if_neg h1, if_neg h2, if_neg h4, if_neg h6, if_neg h8, if_neg h10, if_neg h12, if_neg h14, if_neg h16, if_neg h18, if_neg h20, if_neg h22, if_pos h24], rfl⟩
                          · by_cases h26 : i = 12
                            · refine ev_tableIn (t := 117) (q := 117) (off := 116) dT_leaf_1 (by rw [iI_toInt ⟨by omega, by omega⟩]; omega) (by rw [iI_toInt ⟨by omega, by omega⟩]; omega) (by rw [iI_toInt ⟨by omega, by omega⟩]; rw [show i = 12 by omega]; rfl) rfl rfl ?_
                              refine ev_aload_n 0 (q := 118) dT_leaf_117 rfl (by rfl) rfl ?_
                              refine cv_V (As := []) (q := 121) dT_leaf_118 kT_75 (at_T hc.2.1 hp0) rfl rfl (Nat.le_of_ble_eq_true rfl) rfl rfl rfl (by decide) (sT_needs hc t hp0 ) ?_
                              have g27 := bT_needs hc t hp0 
                              exact zr_iret dT_leaf_121 rfl ⟨by rw [cT_leaf, if_neg h1, if_neg h2, if_neg h4, if_neg h6, if_neg h8, if_neg h10, if_neg h12, if_neg h14, if_neg h16, if_neg h18, if_neg h20, if_neg h22, if_neg h24, if_pos h26], rfl⟩
                            · by_cases h28 : i = 13
                              · refine ev_tableIn (t := 127) (q := 127) (off := 126) dT_leaf_1 (by rw [iI_toInt ⟨by omega, by omega⟩]; omega) (by rw [iI_toInt ⟨by omega, by omega⟩]; omega) (by rw [iI_toInt ⟨by omega, by omega⟩]; rw [show i = 13 by omega]; rfl) rfl rfl ?_
                                refine ev_iconst (v := iI 0) (q := 128) dT_leaf_127 rfl rfl ?_
                                exact zr_iret dT_leaf_128 rfl ⟨by rw [cT_leaf, if_neg h1, if_neg h2, if_neg h4, if_neg h6, if_neg h8, if_neg h10, if_neg h12, if_neg h14, if_neg h16, if_neg h18, if_neg h20, if_neg h22, if_neg h24, if_neg h26, if_pos h28], rfl⟩
                              · by_cases h29 : i = 14
                                · refine ev_tableIn (t := 127) (q := 127) (off := 126) dT_leaf_1 (by rw [iI_toInt ⟨by omega, by omega⟩]; omega) (by rw [iI_toInt ⟨by omega, by omega⟩]; omega) (by rw [iI_toInt ⟨by omega, by omega⟩]; rw [show i = 14 by omega]; rfl) rfl rfl ?_
                                  refine ev_iconst (v := iI 0) (q := 128) dT_leaf_127 rfl rfl ?_
                                  exact zr_iret dT_leaf_128 rfl ⟨by rw [cT_leaf, if_neg h1, if_neg h2, if_neg h4, if_neg h6, if_neg h8, if_neg h10, if_neg h12, if_neg h14, if_neg h16, if_neg h18, if_neg h20, if_neg h22, if_neg h24, if_neg h26, if_neg h28, if_pos h29], rfl⟩
                                · refine ev_tableIn (t := 122) (q := 122) (off := 121) dT_leaf_1 (by rw [iI_toInt ⟨by omega, by omega⟩]; omega) (by rw [iI_toInt ⟨by omega, by omega⟩]; omega) (by rw [iI_toInt ⟨by omega, by omega⟩]; rw [show i = 15 by omega]; rfl) rfl rfl ?_
                                  refine ev_aload_n 0 (q := 123) dT_leaf_122 rfl (by rfl) rfl ?_
                                  refine ev_get (q := 126) dT_leaf_123 fT_9 (at_T hc.2.1 hp0) (by rfl) rfl ?_
                                  exact zr_iret dT_leaf_126 rfl ⟨by rw [cT_leaf, if_neg h1, if_neg h2, if_neg h4, if_neg h6, if_neg h8, if_neg h10, if_neg h12, if_neg h14, if_neg h16, if_neg h18, if_neg h20, if_neg h22, if_neg h24, if_neg h26, if_neg h28, if_neg h29], rfl⟩
