def lR_fetch_2 (ρ : z_Sg) (node t : Int) (j : Nat) (k : Int) : z_Sg := match j with
  | 0 => ρ
  | j + 1 => lR_fetch_2 (z_up ρ 25 k 0) node t j (k + 1)
set_option maxRecDepth 100000 in
set_option maxHeartbeats 4000000 in
theorem eR_fetch_2 {κ ρ : z_Sg} {a : Int → Nat} {B : List va_E} {Q : Option Value → List va_E → Prop} (hw : z_wf ρ) (node t : Int) (hp0 : 0 ≤ node ∧ node ≤ 3) (hp1 : 0 ≤ t ∧ t ≤ 19) : ∀ (j : Nat) (k : Int), 0 ≤ k → k + j = 20 → (∀ (y3 : Value), z_Ev mR_fetch (0, 0) 0 0 21 [.ref 12, zi node, zi t, y3, .float 0, .float 0, .float 0, .float 0, .float 0] [] (zM κ a (lR_fetch_2 ρ node t j k) B) Q) → z_Ev mR_fetch (0, 0) 0 0 2 [.ref 12, zi node, zi t, zi k, .float 0, .float 0, .float 0, .float 0, .float 0] [] (zM κ a ρ B) Q := by
  intro j
  induction j generalizing ρ with
  | zero =>
    intro k   c0 c1 hk
    refine ev_iload_n 3 (q := 3) dR_fetch_2 rfl (by rfl) rfl ?_
    refine ev_bipush (v := iI 20) (q := 5) dR_fetch_3 (by decide) rfl ?_
    refine zr_icmp_ge (t := 21) (q := 8) dR_fetch_5 rfl rfl ⟨by omega, by omega⟩ ⟨by omega, by omega⟩ (fun h1 => ?_) (fun h1 => ?_)
    · exact hk _
    · exfalso
      omega
  | succ j ih =>
    intro k   c0 c1 hk
    refine ev_iload_n 3 (q := 3) dR_fetch_2 rfl (by rfl) rfl ?_
    refine ev_bipush (v := iI 20) (q := 5) dR_fetch_3 (by decide) rfl ?_
    refine zr_icmp_ge (t := 21) (q := 8) dR_fetch_5 rfl rfl ⟨by omega, by omega⟩ ⟨by omega, by omega⟩ (fun h1 => ?_) (fun h1 => ?_)
    · exfalso
      omega
    · refine ev_aload_n 0 (q := 9) dR_fetch_8 rfl (by rfl) rfl ?_
      refine ev_get (q := 12) dR_fetch_9 fR_77 atR (by rfl) rfl ?_
      refine ev_iload_n 3 (q := 13) dR_fetch_12 rfl (by rfl) rfl ?_
      refine ev_iconst (v := iI 0) (q := 14) dR_fetch_13 rfl rfl ?_
      refine zr_zast (q := 15) dR_fetch_14 at_before (by decide) (by omega) ⟨by omega, by omega⟩ st_before rfl ?_
      have hw2 : z_wf (z_up ρ 25 k 0) := z_wf_up hw (show (0 : Int) ≤ 0 by omega) (show 0 ≤ (1 : Int) by omega)
      refine zr_iinc (q := 18) dR_fetch_15 (by rfl) (by decide) rfl rfl ?_
      dsimp only [List.set]
      refine ev_goto (t := 2) (q := 2) dR_fetch_18 rfl rfl ?_
      rw [show lR_fetch_2 ρ node t (j + 1) k = lR_fetch_2 (z_up ρ 25 k 0) node t j (k + 1) from by rw [lR_fetch_2]] at hk
      exact ih hw2  (k + 1)   (by omega) (by omega) hk
set_option maxRecDepth 100000 in
set_option maxHeartbeats 4000000 in
theorem wlR_fetch_2 {ρ : z_Sg} (hw : z_wf ρ) (node t : Int) (hp0 : 0 ≤ node ∧ node ≤ 3) (hp1 : 0 ≤ t ∧ t ≤ 19) : ∀ (j : Nat) (k : Int), 0 ≤ k → k + j = 20 → z_wf (lR_fetch_2 ρ node t j k) := by
  intro j
  induction j generalizing ρ with
  | zero =>
    intro k  c0 c1
    rw [lR_fetch_2]
    exact hw
  | succ j ihw =>
    intro k  c0 c1
    rw [lR_fetch_2]
    have hw2 : z_wf (z_up ρ 25 k 0) := z_wf_up hw (show (0 : Int) ≤ 0 by omega) (show 0 ≤ (1 : Int) by omega)
    exact ihw hw2  (k + 1)  (by omega) (by omega)
def lR_fetch_23 (ρ : z_Sg) (node t : Int) (j : Nat) (k : Int) : z_Sg := match j with
  | 0 => ρ
  | j + 1 => lR_fetch_23 (z_up ρ 25 ((ρ 11 ((4 * t) + k)) / 4) 1) node t j (k + 1)
set_option maxRecDepth 100000 in
set_option maxHeartbeats 4000000 in
theorem eR_fetch_23 {κ ρ : z_Sg} {a : Int → Nat} {B : List va_E} {Q : Option Value → List va_E → Prop} (hw : z_wf ρ) (node t : Int) (hp0 : 0 ≤ node ∧ node ≤ 3) (hp1 : 0 ≤ t ∧ t ≤ 19) : ∀ (j : Nat) (k : Int), 0 ≤ k → k + j = ρ 9 t → (∀ (y3 : Value), z_Ev mR_fetch (0, 0) 0 0 57 [.ref 12, zi node, zi t, y3, .float 0, .float 0, .float 0, .float 0, .float 0] [] (zM κ a (lR_fetch_23 ρ node t j k) B) Q) → z_Ev mR_fetch (0, 0) 0 0 23 [.ref 12, zi node, zi t, zi k, .float 0, .float 0, .float 0, .float 0, .float 0] [] (zM κ a ρ B) Q := by
  intro j
  induction j generalizing ρ with
  | zero =>
    intro k   c0 c1 hk
    refine ev_iload_n 3 (q := 24) dR_fetch_23 rfl (by rfl) rfl ?_
    refine ev_aload_n 0 (q := 25) dR_fetch_24 rfl (by rfl) rfl ?_
    refine ev_get (q := 28) dR_fetch_25 fR_35 atR (by rfl) rfl ?_
    refine ev_iload_n 2 (q := 29) dR_fetch_28 rfl (by rfl) rfl ?_
    refine zr_iald (q := 30) (g := ρ 9) dR_fetch_29 at_inputs (by decide) ⟨by omega, by omega⟩ rfl ?_
    have g1 : 0 ≤ ρ 9 t ∧ ρ 9 t ≤ 4 := hw 9 t (by decide)
    refine zr_icmp_ge (t := 57) (q := 33) dR_fetch_30 rfl rfl ⟨by omega, by omega⟩ ⟨by omega, by omega⟩ (fun h2 => ?_) (fun h2 => ?_)
    · exact hk _
    · exfalso
      omega
  | succ j ih =>
    intro k   c0 c1 hk
    refine ev_iload_n 3 (q := 24) dR_fetch_23 rfl (by rfl) rfl ?_
    refine ev_aload_n 0 (q := 25) dR_fetch_24 rfl (by rfl) rfl ?_
    refine ev_get (q := 28) dR_fetch_25 fR_35 atR (by rfl) rfl ?_
    refine ev_iload_n 2 (q := 29) dR_fetch_28 rfl (by rfl) rfl ?_
    refine zr_iald (q := 30) (g := ρ 9) dR_fetch_29 at_inputs (by decide) ⟨by omega, by omega⟩ rfl ?_
    have g1 : 0 ≤ ρ 9 t ∧ ρ 9 t ≤ 4 := hw 9 t (by decide)
    refine zr_icmp_ge (t := 57) (q := 33) dR_fetch_30 rfl rfl ⟨by omega, by omega⟩ ⟨by omega, by omega⟩ (fun h2 => ?_) (fun h2 => ?_)
    · exfalso
      omega
    · refine ev_aload_n 0 (q := 34) dR_fetch_33 rfl (by rfl) rfl ?_
      refine ev_get (q := 37) dR_fetch_34 fR_77 atR (by rfl) rfl ?_
      refine ev_aload_n 0 (q := 38) dR_fetch_37 rfl (by rfl) rfl ?_
      refine ev_get (q := 41) dR_fetch_38 fR_41 atR (by rfl) rfl ?_
      refine ev_iconst (v := iI 4) (q := 42) dR_fetch_41 rfl rfl ?_
      refine ev_iload_n 2 (q := 43) dR_fetch_42 rfl (by rfl) rfl ?_
      refine zr_imul (q := 44) dR_fetch_43 rfl ?_
      refine ev_iload_n 3 (q := 45) dR_fetch_44 rfl (by rfl) rfl ?_
      refine zr_iadd (q := 46) dR_fetch_45 rfl ?_
      refine zr_iald (q := 47) (g := ρ 11) dR_fetch_46 at_input (by decide) ⟨by omega, by omega⟩ rfl ?_
      have g3 : 0 ≤ ρ 11 ((4 * t) + k) ∧ ρ 11 ((4 * t) + k) ≤ 79 := hw 11 ((4 * t) + k) (by decide)
      refine ev_iconst (v := iI 4) (q := 48) dR_fetch_47 rfl rfl ?_
      refine zr_idiv (q := 49) dR_fetch_48 ⟨by omega, by omega⟩ ⟨by omega, by omega⟩ rfl ?_
      refine ev_iconst (v := iI 1) (q := 50) dR_fetch_49 rfl rfl ?_
      refine zr_zast (q := 51) dR_fetch_50 at_before (by decide) (by omega) ⟨by omega, by omega⟩ st_before rfl ?_
      have hw4 : z_wf (z_up ρ 25 ((ρ 11 ((4 * t) + k)) / 4) 1) := z_wf_up hw (show (0 : Int) ≤ 1 by omega) (show 1 ≤ (1 : Int) by omega)
      refine zr_iinc (q := 54) dR_fetch_51 (by rfl) (by decide) rfl rfl ?_
      dsimp only [List.set]
      refine ev_goto (t := 23) (q := 23) dR_fetch_54 rfl rfl ?_
      rw [show lR_fetch_23 ρ node t (j + 1) k = lR_fetch_23 (z_up ρ 25 ((ρ 11 ((4 * t) + k)) / 4) 1) node t j (k + 1) from by rw [lR_fetch_23]] at hk
      exact ih hw4  (k + 1)   (by omega) (by have e9 : (z_up ρ 25 ((ρ 11 ((4 * t) + k)) / 4) 1) 9 t = ρ 9 t := rfl; omega) hk
set_option maxRecDepth 100000 in
set_option maxHeartbeats 4000000 in
theorem wlR_fetch_23 {ρ : z_Sg} (hw : z_wf ρ) (node t : Int) (hp0 : 0 ≤ node ∧ node ≤ 3) (hp1 : 0 ≤ t ∧ t ≤ 19) : ∀ (j : Nat) (k : Int), 0 ≤ k → k + j = ρ 9 t → z_wf (lR_fetch_23 ρ node t j k) := by
  intro j
  induction j generalizing ρ with
  | zero =>
    intro k  c0 c1
    rw [lR_fetch_23]
    have g1 : 0 ≤ ρ 9 t ∧ ρ 9 t ≤ 4 := hw 9 t (by decide)
    exact hw
  | succ j ihw =>
    intro k  c0 c1
    rw [lR_fetch_23]
    have g1 : 0 ≤ ρ 9 t ∧ ρ 9 t ≤ 4 := hw 9 t (by decide)
    have g3 : 0 ≤ ρ 11 ((4 * t) + k) ∧ ρ 11 ((4 * t) + k) ≤ 79 := hw 11 ((4 * t) + k) (by decide)
    have hw4 : z_wf (z_up ρ 25 ((ρ 11 ((4 * t) + k)) / 4) 1) := z_wf_up hw (show (0 : Int) ≤ 1 by omega) (show 1 ≤ (1 : Int) by omega)
    exact ihw hw4  (k + 1)  (by omega) (by have e9 : (z_up ρ 25 ((ρ 11 ((4 * t) + k)) / 4) 1) 9 t = ρ 9 t := rfl; omega)
def lR_fetch_78 (ρ : z_Sg) (node t : Int) (j : Nat) (k mo : Int) : Int × z_Sg := match j with
  | 0 => (mo, ρ)
  | j + 1 => if (ρ 25 (k / 4)) = 0 then lR_fetch_78 ρ node t j (k + 1) mo else if (ρ 9 (k / 4)) ≤ (k % 4) then lR_fetch_78 ρ node t j (k + 1) mo else if (ρ 25 ((ρ 11 k) / 4)) ≠ 0 then lR_fetch_78 ρ node t j (k + 1) mo else lR_fetch_78 (z_up ρ 25 ((ρ 11 k) / 4) 1) node t j (k + 1) 1
set_option maxRecDepth 100000 in
set_option maxHeartbeats 4000000 in
theorem eR_fetch_78 {κ ρ : z_Sg} {a : Int → Nat} {B : List va_E} {Q : Option Value → List va_E → Prop} (hw : z_wf ρ) (node t : Int) (hp0 : 0 ≤ node ∧ node ≤ 3) (hp1 : 0 ≤ t ∧ t ≤ 19) : ∀ (j : Nat) (k mo : Int) (x6 : Value) (x7 : Value) (x8 : Value) (x4 : Value), 0 ≤ k → k + j = 80 → mo = 0 ∨ mo = 1 → (∀ (y5 y6 y7 y8 : Value), z_Ev mR_fetch (0, 0) 0 0 174 [.ref 12, zi node, zi t, zi ((lR_fetch_78 ρ node t j k mo).1), x4, y5, y6, y7, y8] [] (zM κ a (lR_fetch_78 ρ node t j k mo).2 B) Q) → z_Ev mR_fetch (0, 0) 0 0 78 [.ref 12, zi node, zi t, zi mo, x4, zi k, x6, x7, x8] [] (zM κ a ρ B) Q := by
  intro j
  induction j generalizing ρ with
  | zero =>
    intro k mo  x6 x7 x8 x4 c0 c1 c2 hk
    refine ev_iload (q := 80) dR_fetch_78 (by rfl) rfl ?_
    refine ev_bipush (v := iI 80) (q := 82) dR_fetch_80 (by decide) rfl ?_
    refine zr_icmp_ge (t := 174) (q := 85) dR_fetch_82 rfl rfl ⟨by omega, by omega⟩ ⟨by omega, by omega⟩ (fun h1 => ?_) (fun h1 => ?_)
    · exact hk _ _ _ _
    · exfalso
      omega
  | succ j ih =>
    intro k mo  x6 x7 x8 x4 c0 c1 c2 hk
    refine ev_iload (q := 80) dR_fetch_78 (by rfl) rfl ?_
    refine ev_bipush (v := iI 80) (q := 82) dR_fetch_80 (by decide) rfl ?_
    refine zr_icmp_ge (t := 174) (q := 85) dR_fetch_82 rfl rfl ⟨by omega, by omega⟩ ⟨by omega, by omega⟩ (fun h1 => ?_) (fun h1 => ?_)
    · exfalso
      omega
    · refine ev_iload (q := 87) dR_fetch_85 (by rfl) rfl ?_
      refine ev_iconst (v := iI 4) (q := 88) dR_fetch_87 rfl rfl ?_
      refine zr_idiv (q := 89) dR_fetch_88 ⟨by omega, by omega⟩ ⟨by omega, by omega⟩ rfl ?_
      refine ev_istore (q := 91) dR_fetch_89 (by decide) rfl rfl ?_
      dsimp only [List.set]
      refine ev_aload_n 0 (q := 92) dR_fetch_91 rfl (by rfl) rfl ?_
      refine ev_get (q := 95) dR_fetch_92 fR_77 atR (by rfl) rfl ?_
      refine ev_iload (q := 97) dR_fetch_95 (by rfl) rfl ?_
      refine zr_zald (q := 98) (g := ρ 25) dR_fetch_97 at_before (by decide) ⟨by omega, by omega⟩ rfl ?_
      have g2 : 0 ≤ ρ 25 (k / 4) ∧ ρ 25 (k / 4) ≤ 1 := hw 25 (k / 4) (by decide)
      refine zr_if_eq (t := 119) (q := 101) dR_fetch_98 rfl rfl ⟨by omega, by omega⟩ (fun h3 => ?_) (fun h3 => ?_)
      · refine ev_iconst (v := iI 0) (q := 120) dR_fetch_119 rfl rfl ?_
        refine ev_istore (q := 122) dR_fetch_120 (by decide) rfl rfl ?_
        dsimp only [List.set]
        refine ev_iload (q := 124) dR_fetch_122 (by rfl) rfl ?_
        refine zr_if_eq (t := 139) (q := 127) dR_fetch_124 rfl rfl ⟨by omega, by omega⟩ (fun h4 => ?_) (fun h4 => ?_)
        · refine ev_iload (q := 141) dR_fetch_139 (by rfl) rfl ?_
          refine ev_istore (q := 143) dR_fetch_141 (by decide) rfl rfl ?_
          dsimp only [List.set]
          refine ev_iload (q := 145) dR_fetch_143 (by rfl) rfl ?_
          refine zr_if_eq (t := 168) (q := 148) dR_fetch_145 rfl rfl ⟨by omega, by omega⟩ (fun h5 => ?_) (fun h5 => ?_)
          · refine zr_iinc (q := 171) dR_fetch_168 (by rfl) (by decide) rfl rfl ?_
            dsimp only [List.set]
            refine ev_goto (t := 78) (q := 78) dR_fetch_171 rfl rfl ?_
            rw [show lR_fetch_78 ρ node t (j + 1) k mo = lR_fetch_78 ρ node t j (k + 1) mo from by rw [lR_fetch_78, if_pos h3]] at hk
            exact ih hw  (k + 1) mo  (zi (k / 4)) (zi 0) (zi (k / 4)) x4 (by omega) (by omega) (by omega) hk
          · exfalso
            omega
        · exfalso
          omega
      · refine ev_iload (q := 103) dR_fetch_101 (by rfl) rfl ?_
        refine ev_iconst (v := iI 4) (q := 104) dR_fetch_103 rfl rfl ?_
        refine zr_irem (q := 105) dR_fetch_104 ⟨by omega, by omega⟩ ⟨by omega, by omega⟩ rfl ?_
        refine ev_aload_n 0 (q := 106) dR_fetch_105 rfl (by rfl) rfl ?_
        refine ev_get (q := 109) dR_fetch_106 fR_35 atR (by rfl) rfl ?_
        refine ev_iload (q := 111) dR_fetch_109 (by rfl) rfl ?_
        refine zr_iald (q := 112) (g := ρ 9) dR_fetch_111 at_inputs (by decide) ⟨by omega, by omega⟩ rfl ?_
        have g6 : 0 ≤ ρ 9 (k / 4) ∧ ρ 9 (k / 4) ≤ 4 := hw 9 (k / 4) (by decide)
        refine zr_icmp_ge (t := 119) (q := 115) dR_fetch_112 rfl rfl ⟨by omega, by omega⟩ ⟨by omega, by omega⟩ (fun h7 => ?_) (fun h7 => ?_)
        · refine ev_iconst (v := iI 0) (q := 120) dR_fetch_119 rfl rfl ?_
          refine ev_istore (q := 122) dR_fetch_120 (by decide) rfl rfl ?_
          dsimp only [List.set]
          refine ev_iload (q := 124) dR_fetch_122 (by rfl) rfl ?_
          refine zr_if_eq (t := 139) (q := 127) dR_fetch_124 rfl rfl ⟨by omega, by omega⟩ (fun h8 => ?_) (fun h8 => ?_)
          · refine ev_iload (q := 141) dR_fetch_139 (by rfl) rfl ?_
            refine ev_istore (q := 143) dR_fetch_141 (by decide) rfl rfl ?_
            dsimp only [List.set]
            refine ev_iload (q := 145) dR_fetch_143 (by rfl) rfl ?_
            refine zr_if_eq (t := 168) (q := 148) dR_fetch_145 rfl rfl ⟨by omega, by omega⟩ (fun h9 => ?_) (fun h9 => ?_)
            · refine zr_iinc (q := 171) dR_fetch_168 (by rfl) (by decide) rfl rfl ?_
              dsimp only [List.set]
              refine ev_goto (t := 78) (q := 78) dR_fetch_171 rfl rfl ?_
              rw [show lR_fetch_78 ρ node t (j + 1) k mo = lR_fetch_78 ρ node t j (k + 1) mo from by rw [lR_fetch_78, if_neg h3, if_pos h7]] at hk
              exact ih hw  (k + 1) mo  (zi (k / 4)) (zi 0) (zi (k / 4)) x4 (by omega) (by omega) (by omega) hk
            · exfalso
              omega
          · exfalso
            omega
        · refine ev_iconst (v := iI 1) (q := 116) dR_fetch_115 rfl rfl ?_
          refine ev_goto (t := 120) (q := 120) dR_fetch_116 rfl rfl ?_
          refine ev_istore (q := 122) dR_fetch_120 (by decide) rfl rfl ?_
          dsimp only [List.set]
          refine ev_iload (q := 124) dR_fetch_122 (by rfl) rfl ?_
          refine zr_if_eq (t := 139) (q := 127) dR_fetch_124 rfl rfl ⟨by omega, by omega⟩ (fun h10 => ?_) (fun h10 => ?_)
          · exfalso
            omega
          · refine ev_aload_n 0 (q := 128) dR_fetch_127 rfl (by rfl) rfl ?_
            refine ev_get (q := 131) dR_fetch_128 fR_41 atR (by rfl) rfl ?_
            refine ev_iload (q := 133) dR_fetch_131 (by rfl) rfl ?_
            refine zr_iald (q := 134) (g := ρ 11) dR_fetch_133 at_input (by decide) ⟨by omega, by omega⟩ rfl ?_
            have g11 : 0 ≤ ρ 11 k ∧ ρ 11 k ≤ 79 := hw 11 k (by decide)
            refine ev_iconst (v := iI 4) (q := 135) dR_fetch_134 rfl rfl ?_
            refine zr_idiv (q := 136) dR_fetch_135 ⟨by omega, by omega⟩ ⟨by omega, by omega⟩ rfl ?_
            refine ev_goto (t := 141) (q := 141) dR_fetch_136 rfl rfl ?_
            refine ev_istore (q := 143) dR_fetch_141 (by decide) rfl rfl ?_
            dsimp only [List.set]
            refine ev_iload (q := 145) dR_fetch_143 (by rfl) rfl ?_
            refine zr_if_eq (t := 168) (q := 148) dR_fetch_145 rfl rfl ⟨by omega, by omega⟩ (fun h12 => ?_) (fun h12 => ?_)
            · exfalso
              omega
            · refine ev_aload_n 0 (q := 149) dR_fetch_148 rfl (by rfl) rfl ?_
              refine ev_get (q := 152) dR_fetch_149 fR_77 atR (by rfl) rfl ?_
              refine ev_iload (q := 154) dR_fetch_152 (by rfl) rfl ?_
              refine zr_zald (q := 155) (g := ρ 25) dR_fetch_154 at_before (by decide) ⟨by omega, by omega⟩ rfl ?_
              have g13 : 0 ≤ ρ 25 ((ρ 11 k) / 4) ∧ ρ 25 ((ρ 11 k) / 4) ≤ 1 := hw 25 ((ρ 11 k) / 4) (by decide)
              refine zr_if_ne (t := 168) (q := 158) dR_fetch_155 rfl rfl ⟨by omega, by omega⟩ (fun h14 => ?_) (fun h14 => ?_)
              · refine zr_iinc (q := 171) dR_fetch_168 (by rfl) (by decide) rfl rfl ?_
                dsimp only [List.set]
                refine ev_goto (t := 78) (q := 78) dR_fetch_171 rfl rfl ?_
                rw [show lR_fetch_78 ρ node t (j + 1) k mo = lR_fetch_78 ρ node t j (k + 1) mo from by rw [lR_fetch_78, if_neg h3, if_neg (Int.not_le.mpr h7), if_pos h14]] at hk
                exact ih hw  (k + 1) mo  (zi (k / 4)) (zi 1) (zi ((ρ 11 k) / 4)) x4 (by omega) (by omega) (by omega) hk
              · refine ev_aload_n 0 (q := 159) dR_fetch_158 rfl (by rfl) rfl ?_
                refine ev_get (q := 162) dR_fetch_159 fR_77 atR (by rfl) rfl ?_
                refine ev_iload (q := 164) dR_fetch_162 (by rfl) rfl ?_
                refine ev_iconst (v := iI 1) (q := 165) dR_fetch_164 rfl rfl ?_
                refine zr_zast (q := 166) dR_fetch_165 at_before (by decide) (by omega) ⟨by omega, by omega⟩ st_before rfl ?_
                have hw15 : z_wf (z_up ρ 25 ((ρ 11 k) / 4) 1) := z_wf_up hw (show (0 : Int) ≤ 1 by omega) (show 1 ≤ (1 : Int) by omega)
                refine ev_iconst (v := iI 1) (q := 167) dR_fetch_166 rfl rfl ?_
                refine ev_istore_n 3 (q := 168) dR_fetch_167 rfl (by decide) rfl rfl ?_
                dsimp only [List.set]
                refine zr_iinc (q := 171) dR_fetch_168 (by rfl) (by decide) rfl rfl ?_
                dsimp only [List.set]
                refine ev_goto (t := 78) (q := 78) dR_fetch_171 rfl rfl ?_
                rw [show lR_fetch_78 ρ node t (j + 1) k mo = lR_fetch_78 (z_up ρ 25 ((ρ 11 k) / 4) 1) node t j (k + 1) 1 from by rw [lR_fetch_78, if_neg h3, if_neg (Int.not_le.mpr h7), if_neg (fun z => z h14)]] at hk
                exact ih hw15  (k + 1) 1  (zi (k / 4)) (zi 1) (zi ((ρ 11 k) / 4)) x4 (by omega) (by omega) (by omega) hk
set_option maxRecDepth 100000 in
set_option maxHeartbeats 4000000 in
theorem wlR_fetch_78 {ρ : z_Sg} (hw : z_wf ρ) (node t : Int) (hp0 : 0 ≤ node ∧ node ≤ 3) (hp1 : 0 ≤ t ∧ t ≤ 19) : ∀ (j : Nat) (k mo : Int), 0 ≤ k → k + j = 80 → mo = 0 ∨ mo = 1 → z_wf (lR_fetch_78 ρ node t j k mo).2 := by
  intro j
  induction j generalizing ρ with
  | zero =>
    intro k mo  c0 c1 c2
    rw [lR_fetch_78]
    exact hw
  | succ j ihw =>
    intro k mo  c0 c1 c2
    rw [lR_fetch_78]
    have g2 : 0 ≤ ρ 25 (k / 4) ∧ ρ 25 (k / 4) ≤ 1 := hw 25 (k / 4) (by decide)
    by_cases h3 : (ρ 25 (k / 4)) = 0
    · rw [if_pos h3]
      exact ihw hw  (k + 1) mo  (by omega) (by omega) (by omega)
    · rw [if_neg h3]
      have g6 : 0 ≤ ρ 9 (k / 4) ∧ ρ 9 (k / 4) ≤ 4 := hw 9 (k / 4) (by decide)
      by_cases h7 : (ρ 9 (k / 4)) ≤ (k % 4)
      · rw [if_pos h7]
        exact ihw hw  (k + 1) mo  (by omega) (by omega) (by omega)
      · rw [if_neg h7]
        have g11 : 0 ≤ ρ 11 k ∧ ρ 11 k ≤ 79 := hw 11 k (by decide)
        have g13 : 0 ≤ ρ 25 ((ρ 11 k) / 4) ∧ ρ 25 ((ρ 11 k) / 4) ≤ 1 := hw 25 ((ρ 11 k) / 4) (by decide)
        by_cases h14 : (ρ 25 ((ρ 11 k) / 4)) ≠ 0
        · rw [if_pos h14]
          exact ihw hw  (k + 1) mo  (by omega) (by omega) (by omega)
        · rw [if_neg h14]
          have hw15 : z_wf (z_up ρ 25 ((ρ 11 k) / 4) 1) := z_wf_up hw (show (0 : Int) ≤ 1 by omega) (show 1 ≤ (1 : Int) by omega)
          exact ihw hw15  (k + 1) 1  (by omega) (by omega) (by omega)
theorem fR_fetch_78 (ρ : z_Sg) (node t : Int) : ∀ (j : Nat) (k mo : Int), (mo = 0 ∨ mo = 1) → (lR_fetch_78 ρ node t j k mo).1 = 0 ∨ (lR_fetch_78 ρ node t j k mo).1 = 1 := by
  intro j
  induction j generalizing ρ with
  | zero => intro k mo h; exact h
  | succ j ih =>
    intro k mo h
    rw [lR_fetch_78]
    repeat' split
    all_goals first | exact ih _ _ _ h | exact ih _ _ _ (Or.inr rfl)
def lR_fetch_62 (ρ : z_Sg) (node t : Int) (j : Nat) (k mo : Int) : z_Sg := match j with
  | 0 => ρ
  | j + 1 => if mo = 0 then ρ else lR_fetch_62 (lR_fetch_78 ρ node t 80 0 0).2 node t j (k + 1) ((lR_fetch_78 ρ node t 80 0 0).1)
set_option maxRecDepth 100000 in
set_option maxHeartbeats 4000000 in
theorem eR_fetch_62 {κ ρ : z_Sg} {a : Int → Nat} {B : List va_E} {Q : Option Value → List va_E → Prop} (hw : z_wf ρ) (node t : Int) (hp0 : 0 ≤ node ∧ node ≤ 3) (hp1 : 0 ≤ t ∧ t ≤ 19) : ∀ (j : Nat) (k mo : Int) (x5 : Value) (x6 : Value) (x7 : Value) (x8 : Value), 0 ≤ k → k + j = 21 → mo = 0 ∨ mo = 1 → (∀ (y4 y3 y5 y6 y7 y8 : Value), z_Ev mR_fetch (0, 0) 0 0 180 [.ref 12, zi node, zi t, y3, y4, y5, y6, y7, y8] [] (zM κ a (lR_fetch_62 ρ node t j k mo) B) Q) → z_Ev mR_fetch (0, 0) 0 0 62 [.ref 12, zi node, zi t, zi mo, zi k, x5, x6, x7, x8] [] (zM κ a ρ B) Q := by
  intro j
  induction j generalizing ρ with
  | zero =>
    intro k mo  x5 x6 x7 x8 c0 c1 c2 hk
    refine ev_iload (q := 64) dR_fetch_62 (by rfl) rfl ?_
    refine ev_bipush (v := iI 21) (q := 66) dR_fetch_64 (by decide) rfl ?_
    refine zr_icmp_ge (t := 180) (q := 69) dR_fetch_66 rfl rfl ⟨by omega, by omega⟩ ⟨by omega, by omega⟩ (fun h1 => ?_) (fun h1 => ?_)
    · exact hk _ _ _ _ _ _
    · exfalso
      omega
  | succ j ih =>
    intro k mo  x5 x6 x7 x8 c0 c1 c2 hk
    refine ev_iload (q := 64) dR_fetch_62 (by rfl) rfl ?_
    refine ev_bipush (v := iI 21) (q := 66) dR_fetch_64 (by decide) rfl ?_
    refine zr_icmp_ge (t := 180) (q := 69) dR_fetch_66 rfl rfl ⟨by omega, by omega⟩ ⟨by omega, by omega⟩ (fun h1 => ?_) (fun h1 => ?_)
    · exfalso
      omega
    · refine ev_iload_n 3 (q := 70) dR_fetch_69 rfl (by rfl) rfl ?_
      refine zr_if_eq (t := 180) (q := 73) dR_fetch_70 rfl rfl ⟨by omega, by omega⟩ (fun h2 => ?_) (fun h2 => ?_)
      · rw [show lR_fetch_62 ρ node t (j + 1) k mo = ρ from by rw [lR_fetch_62, if_pos h2]] at hk
        exact hk _ _ _ _ _ _
      · refine ev_iconst (v := iI 0) (q := 74) dR_fetch_73 rfl rfl ?_
        refine ev_istore_n 3 (q := 75) dR_fetch_74 rfl (by decide) rfl rfl ?_
        dsimp only [List.set]
        refine ev_iconst (v := iI 0) (q := 76) dR_fetch_75 rfl rfl ?_
        refine ev_istore (q := 78) dR_fetch_76 (by decide) rfl rfl ?_
        dsimp only [List.set]
        refine eR_fetch_78 hw node t hp0 hp1 80 0 0  x6 x7 x8 (zi k) (by omega) (by omega) (by omega) (fun y3 y4 y5 y6 => ?_)
        have hw7 : z_wf (lR_fetch_78 ρ node t 80 0 0).2 := wlR_fetch_78 hw node t hp0 hp1 80 0 0  (by omega) (by omega) (by omega)
        have u8 := fR_fetch_78 ρ node t 80 0 0 (Or.inl rfl)
        refine zr_iinc (q := 177) dR_fetch_174 (by rfl) (by decide) rfl rfl ?_
        dsimp only [List.set]
        refine ev_goto (t := 62) (q := 62) dR_fetch_177 rfl rfl ?_
        rw [show lR_fetch_62 ρ node t (j + 1) k mo = lR_fetch_62 (lR_fetch_78 ρ node t 80 0 0).2 node t j (k + 1) ((lR_fetch_78 ρ node t 80 0 0).1) from by rw [lR_fetch_62, if_neg h2]] at hk
        exact ih hw7  (k + 1) ((lR_fetch_78 ρ node t 80 0 0).1)  y3 y4 y5 y6 (by omega) (by omega) (by omega) hk
set_option maxRecDepth 100000 in
set_option maxHeartbeats 4000000 in
theorem wlR_fetch_62 {ρ : z_Sg} (hw : z_wf ρ) (node t : Int) (hp0 : 0 ≤ node ∧ node ≤ 3) (hp1 : 0 ≤ t ∧ t ≤ 19) : ∀ (j : Nat) (k mo : Int), 0 ≤ k → k + j = 21 → mo = 0 ∨ mo = 1 → z_wf (lR_fetch_62 ρ node t j k mo) := by
  intro j
  induction j generalizing ρ with
  | zero =>
    intro k mo  c0 c1 c2
    rw [lR_fetch_62]
    exact hw
  | succ j ihw =>
    intro k mo  c0 c1 c2
    rw [lR_fetch_62]
    by_cases h2 : mo = 0
    · rw [if_pos h2]
      exact hw
    · rw [if_neg h2]
      have hw7 : z_wf (lR_fetch_78 ρ node t 80 0 0).2 := wlR_fetch_78 hw node t hp0 hp1 80 0 0  (by omega) (by omega) (by omega)
      have u8 := fR_fetch_78 ρ node t 80 0 0 (Or.inl rfl)
      exact ihw hw7  (k + 1) ((lR_fetch_78 ρ node t 80 0 0).1)  (by omega) (by omega) (by omega)
def lR_fetch_183 (ρ : z_Sg) (node t : Int) (j : Nat) (k : Int) : z_Sg := match j with
  | 0 => ρ
  | j + 1 => if (ρ 25 k) = 0 then lR_fetch_183 ρ node t j (k + 1) else if (ρ 18 ((20 * node) + k)) ≠ 0 then lR_fetch_183 ρ node t j (k + 1) else lR_fetch_183 (z_up (z_up ρ 18 ((20 * node) + k) 1) 20 node ((ρ 20 node) + 1)) node t j (k + 1)
set_option maxRecDepth 100000 in
set_option maxHeartbeats 4000000 in
theorem eR_fetch_183 {κ ρ : z_Sg} {a : Int → Nat} {B : List va_E} {Q : Option Value → List va_E → Prop} (hw : z_wf ρ) (node t : Int) (hp0 : 0 ≤ node ∧ node ≤ 3) (hp1 : 0 ≤ t ∧ t ≤ 19) : ∀ (j : Nat) (k : Int) (x3 : Value) (x5 : Value) (x6 : Value) (x7 : Value) (x8 : Value), 0 ≤ k → k + j = 20 → (∀ (y4 y3 y5 y6 y7 y8 : Value), z_Ev mR_fetch (0, 0) 0 0 244 [.ref 12, zi node, zi t, y3, y4, y5, y6, y7, y8] [] (zM κ a (lR_fetch_183 ρ node t j k) B) Q) → z_Ev mR_fetch (0, 0) 0 0 183 [.ref 12, zi node, zi t, x3, zi k, x5, x6, x7, x8] [] (zM κ a ρ B) Q := by
  intro j
  induction j generalizing ρ with
  | zero =>
    intro k  x3 x5 x6 x7 x8 c0 c1 hk
    refine ev_iload (q := 185) dR_fetch_183 (by rfl) rfl ?_
    refine ev_bipush (v := iI 20) (q := 187) dR_fetch_185 (by decide) rfl ?_
    refine zr_icmp_ge (t := 244) (q := 190) dR_fetch_187 rfl rfl ⟨by omega, by omega⟩ ⟨by omega, by omega⟩ (fun h1 => ?_) (fun h1 => ?_)
    · exact hk _ _ _ _ _ _
    · exfalso
      omega
  | succ j ih =>
    intro k  x3 x5 x6 x7 x8 c0 c1 hk
    refine ev_iload (q := 185) dR_fetch_183 (by rfl) rfl ?_
    refine ev_bipush (v := iI 20) (q := 187) dR_fetch_185 (by decide) rfl ?_
    refine zr_icmp_ge (t := 244) (q := 190) dR_fetch_187 rfl rfl ⟨by omega, by omega⟩ ⟨by omega, by omega⟩ (fun h1 => ?_) (fun h1 => ?_)
    · exfalso
      omega
    · refine ev_aload_n 0 (q := 191) dR_fetch_190 rfl (by rfl) rfl ?_
      refine ev_get (q := 194) dR_fetch_191 fR_77 atR (by rfl) rfl ?_
      refine ev_iload (q := 196) dR_fetch_194 (by rfl) rfl ?_
      refine zr_zald (q := 197) (g := ρ 25) dR_fetch_196 at_before (by decide) ⟨by omega, by omega⟩ rfl ?_
      have g2 : 0 ≤ ρ 25 k ∧ ρ 25 k ≤ 1 := hw 25 k (by decide)
      refine zr_if_eq (t := 238) (q := 200) dR_fetch_197 rfl rfl ⟨by omega, by omega⟩ (fun h3 => ?_) (fun h3 => ?_)
      · refine zr_iinc (q := 241) dR_fetch_238 (by rfl) (by decide) rfl rfl ?_
        dsimp only [List.set]
        refine ev_goto (t := 183) (q := 183) dR_fetch_241 rfl rfl ?_
        rw [show lR_fetch_183 ρ node t (j + 1) k = lR_fetch_183 ρ node t j (k + 1) from by rw [lR_fetch_183, if_pos h3]] at hk
        exact ih hw  (k + 1)  x3 x5 x6 x7 x8 (by omega) (by omega) hk
      · refine ev_aload_n 0 (q := 201) dR_fetch_200 rfl (by rfl) rfl ?_
        refine ev_get (q := 204) dR_fetch_201 fR_62 atR (by rfl) rfl ?_
        refine ev_bipush (v := iI 20) (q := 206) dR_fetch_204 (by decide) rfl ?_
        refine ev_iload_n 1 (q := 207) dR_fetch_206 rfl (by rfl) rfl ?_
        refine zr_imul (q := 208) dR_fetch_207 rfl ?_
        refine ev_iload (q := 210) dR_fetch_208 (by rfl) rfl ?_
        refine zr_iadd (q := 211) dR_fetch_210 rfl ?_
        refine zr_iald (q := 212) (g := ρ 18) dR_fetch_211 at_knows (by decide) ⟨by omega, by omega⟩ rfl ?_
        have g4 : 0 ≤ ρ 18 ((20 * node) + k) ∧ ρ 18 ((20 * node) + k) ≤ 2 := hw 18 ((20 * node) + k) (by decide)
        refine zr_if_ne (t := 238) (q := 215) dR_fetch_212 rfl rfl ⟨by omega, by omega⟩ (fun h5 => ?_) (fun h5 => ?_)
        · refine zr_iinc (q := 241) dR_fetch_238 (by rfl) (by decide) rfl rfl ?_
          dsimp only [List.set]
          refine ev_goto (t := 183) (q := 183) dR_fetch_241 rfl rfl ?_
          rw [show lR_fetch_183 ρ node t (j + 1) k = lR_fetch_183 ρ node t j (k + 1) from by rw [lR_fetch_183, if_neg h3, if_pos h5]] at hk
          exact ih hw  (k + 1)  x3 x5 x6 x7 x8 (by omega) (by omega) hk
        · refine ev_aload_n 0 (q := 216) dR_fetch_215 rfl (by rfl) rfl ?_
          refine ev_get (q := 219) dR_fetch_216 fR_62 atR (by rfl) rfl ?_
          refine ev_bipush (v := iI 20) (q := 221) dR_fetch_219 (by decide) rfl ?_
          refine ev_iload_n 1 (q := 222) dR_fetch_221 rfl (by rfl) rfl ?_
          refine zr_imul (q := 223) dR_fetch_222 rfl ?_
          refine ev_iload (q := 225) dR_fetch_223 (by rfl) rfl ?_
          refine zr_iadd (q := 226) dR_fetch_225 rfl ?_
          refine ev_iconst (v := iI 1) (q := 227) dR_fetch_226 rfl rfl ?_
          refine zr_iast (q := 228) dR_fetch_227 at_knows (by decide) ⟨by omega, by omega⟩ st_knows rfl ?_
          have hw6 : z_wf (z_up ρ 18 ((20 * node) + k) 1) := z_wf_up hw (show (0 : Int) ≤ 1 by omega) (show 1 ≤ (2 : Int) by omega)
          refine ev_aload_n 0 (q := 229) dR_fetch_228 rfl (by rfl) rfl ?_
          refine ev_get (q := 232) dR_fetch_229 fR_68 atR (by rfl) rfl ?_
          refine ev_iload_n 1 (q := 233) dR_fetch_232 rfl (by rfl) rfl ?_
          refine ev_dup2 (q := 234) dR_fetch_233 rfl rfl rfl ?_
          refine zr_iald (q := 235) (g := ρ 20) dR_fetch_234 at_fetches (by decide) ⟨by omega, by omega⟩ rfl ?_
          refine ev_iconst (v := iI 1) (q := 236) dR_fetch_235 rfl rfl ?_
          refine zr_iadd (q := 237) dR_fetch_236 rfl ?_
          refine zr_iast (q := 238) dR_fetch_237 at_fetches (by decide) ⟨by omega, by omega⟩ st_fetches rfl ?_
          have hw7 : z_wf (z_up (z_up ρ 18 ((20 * node) + k) 1) 20 node ((ρ 20 node) + 1)) := z_wf_up20 hw6
          refine zr_iinc (q := 241) dR_fetch_238 (by rfl) (by decide) rfl rfl ?_
          dsimp only [List.set]
          refine ev_goto (t := 183) (q := 183) dR_fetch_241 rfl rfl ?_
          rw [show lR_fetch_183 ρ node t (j + 1) k = lR_fetch_183 (z_up (z_up ρ 18 ((20 * node) + k) 1) 20 node ((ρ 20 node) + 1)) node t j (k + 1) from by rw [lR_fetch_183, if_neg h3, if_neg (fun z => z h5)]] at hk
          exact ih hw7  (k + 1)  x3 x5 x6 x7 x8 (by omega) (by omega) hk
set_option maxRecDepth 100000 in
set_option maxHeartbeats 4000000 in
theorem wlR_fetch_183 {ρ : z_Sg} (hw : z_wf ρ) (node t : Int) (hp0 : 0 ≤ node ∧ node ≤ 3) (hp1 : 0 ≤ t ∧ t ≤ 19) : ∀ (j : Nat) (k : Int), 0 ≤ k → k + j = 20 → z_wf (lR_fetch_183 ρ node t j k) := by
  intro j
  induction j generalizing ρ with
  | zero =>
    intro k  c0 c1
    rw [lR_fetch_183]
    exact hw
  | succ j ihw =>
    intro k  c0 c1
    rw [lR_fetch_183]
    have g2 : 0 ≤ ρ 25 k ∧ ρ 25 k ≤ 1 := hw 25 k (by decide)
    by_cases h3 : (ρ 25 k) = 0
    · rw [if_pos h3]
      exact ihw hw  (k + 1)  (by omega) (by omega)
    · rw [if_neg h3]
      have g4 : 0 ≤ ρ 18 ((20 * node) + k) ∧ ρ 18 ((20 * node) + k) ≤ 2 := hw 18 ((20 * node) + k) (by decide)
      by_cases h5 : (ρ 18 ((20 * node) + k)) ≠ 0
      · rw [if_pos h5]
        exact ihw hw  (k + 1)  (by omega) (by omega)
      · rw [if_neg h5]
        have hw6 : z_wf (z_up ρ 18 ((20 * node) + k) 1) := z_wf_up hw (show (0 : Int) ≤ 1 by omega) (show 1 ≤ (2 : Int) by omega)
        have hw7 : z_wf (z_up (z_up ρ 18 ((20 * node) + k) 1) 20 node ((ρ 20 node) + 1)) := z_wf_up20 hw6
        exact ihw hw7  (k + 1)  (by omega) (by omega)
def rR_fetch (ρ : z_Sg) (node t : Int) : Int × z_Sg := (0, (lR_fetch_183 (lR_fetch_62 (lR_fetch_23 (lR_fetch_2 ρ node t 20 0) node t ((lR_fetch_2 ρ node t 20 0) 9 t).toNat 0) node t 21 0 1) node t 20 0))
set_option maxRecDepth 100000 in
set_option maxHeartbeats 4000000 in
theorem sR_fetch {κ ρ : z_Sg} {a : Int → Nat} {B : List va_E} (hw : z_wf ρ) (node t : Int) (hp0 : 0 ≤ node ∧ node ≤ 3) (hp1 : 0 ≤ t ∧ t ≤ 19) : z_Sp mR_fetch (0, 0) 0 0 [.ref 12, zi node, zi t] (zM κ a ρ B) (fun r M' => r = none ∧ M' = zM κ a (rR_fetch ρ node t).2 B) := by
  refine z_Sp_of (L := [.ref 12, zi node, zi t, .float 0, .float 0, .float 0, .float 0, .float 0, .float 0]) (by decide) rfl rfl rfl (Nat.le_of_ble_eq_true rfl) ?_
  refine ev_iconst (v := iI 0) (q := 1) dR_fetch_0 rfl rfl ?_
  refine ev_istore_n 3 (q := 2) dR_fetch_1 rfl (by decide) rfl rfl ?_
  dsimp only [List.set]
  refine eR_fetch_2 hw node t hp0 hp1 20 0   (by omega) (by omega) (fun y1 => ?_)
  have hw2 : z_wf (lR_fetch_2 ρ node t 20 0) := wlR_fetch_2 hw node t hp0 hp1 20 0  (by omega) (by omega)
  refine ev_iconst (v := iI 0) (q := 22) dR_fetch_21 rfl rfl ?_
  refine ev_istore_n 3 (q := 23) dR_fetch_22 rfl (by decide) rfl rfl ?_
  dsimp only [List.set]
  have g3 : 0 ≤ (lR_fetch_2 ρ node t 20 0) 9 t ∧ (lR_fetch_2 ρ node t 20 0) 9 t ≤ 4 := hw2 9 t (by decide)
  refine eR_fetch_23 hw2 node t hp0 hp1 ((lR_fetch_2 ρ node t 20 0) 9 t).toNat 0   (by omega) (by omega) (fun y4 => ?_)
  have hw5 : z_wf (lR_fetch_23 (lR_fetch_2 ρ node t 20 0) node t ((lR_fetch_2 ρ node t 20 0) 9 t).toNat 0) := wlR_fetch_23 hw2 node t hp0 hp1 ((lR_fetch_2 ρ node t 20 0) 9 t).toNat 0  (by omega) (by omega)
  refine ev_iconst (v := iI 1) (q := 58) dR_fetch_57 rfl rfl ?_
  refine ev_istore_n 3 (q := 59) dR_fetch_58 rfl (by decide) rfl rfl ?_
  dsimp only [List.set]
  refine ev_iconst (v := iI 0) (q := 60) dR_fetch_59 rfl rfl ?_
  refine ev_istore (q := 62) dR_fetch_60 (by decide) rfl rfl ?_
  dsimp only [List.set]
  refine eR_fetch_62 hw5 node t hp0 hp1 21 0 1  (.float 0) (.float 0) (.float 0) (.float 0) (by omega) (by omega) (by omega) (fun y6 y7 y8 y9 y10 y11 => ?_)
  have hw12 : z_wf (lR_fetch_62 (lR_fetch_23 (lR_fetch_2 ρ node t 20 0) node t ((lR_fetch_2 ρ node t 20 0) 9 t).toNat 0) node t 21 0 1) := wlR_fetch_62 hw5 node t hp0 hp1 21 0 1  (by omega) (by omega) (by omega)
  refine ev_iconst (v := iI 0) (q := 181) dR_fetch_180 rfl rfl ?_
  refine ev_istore (q := 183) dR_fetch_181 (by decide) rfl rfl ?_
  dsimp only [List.set]
  refine eR_fetch_183 hw12 node t hp0 hp1 20 0  y7 y8 y9 y10 y11 (by omega) (by omega) (fun y13 y14 y15 y16 y17 y18 => ?_)
  have hw19 : z_wf (lR_fetch_183 (lR_fetch_62 (lR_fetch_23 (lR_fetch_2 ρ node t 20 0) node t ((lR_fetch_2 ρ node t 20 0) 9 t).toNat 0) node t 21 0 1) node t 20 0) := wlR_fetch_183 hw12 node t hp0 hp1 20 0  (by omega) (by omega)
  exact ev_ret dR_fetch_244 rfl ⟨rfl, by rw [rR_fetch]⟩
set_option maxRecDepth 100000 in
set_option maxHeartbeats 4000000 in
theorem wR_fetch {ρ : z_Sg} (hw : z_wf ρ) (node t : Int) (hp0 : 0 ≤ node ∧ node ≤ 3) (hp1 : 0 ≤ t ∧ t ≤ 19) : z_wf (rR_fetch ρ node t).2 := by
  rw [rR_fetch]
  have hw2 : z_wf (lR_fetch_2 ρ node t 20 0) := wlR_fetch_2 hw node t hp0 hp1 20 0  (by omega) (by omega)
  have g3 : 0 ≤ (lR_fetch_2 ρ node t 20 0) 9 t ∧ (lR_fetch_2 ρ node t 20 0) 9 t ≤ 4 := hw2 9 t (by decide)
  have hw5 : z_wf (lR_fetch_23 (lR_fetch_2 ρ node t 20 0) node t ((lR_fetch_2 ρ node t 20 0) 9 t).toNat 0) := wlR_fetch_23 hw2 node t hp0 hp1 ((lR_fetch_2 ρ node t 20 0) 9 t).toNat 0  (by omega) (by omega)
  have hw12 : z_wf (lR_fetch_62 (lR_fetch_23 (lR_fetch_2 ρ node t 20 0) node t ((lR_fetch_2 ρ node t 20 0) 9 t).toNat 0) node t 21 0 1) := wlR_fetch_62 hw5 node t hp0 hp1 21 0 1  (by omega) (by omega) (by omega)
  have hw19 : z_wf (lR_fetch_183 (lR_fetch_62 (lR_fetch_23 (lR_fetch_2 ρ node t 20 0) node t ((lR_fetch_2 ρ node t 20 0) 9 t).toNat 0) node t 21 0 1) node t 20 0) := wlR_fetch_183 hw12 node t hp0 hp1 20 0  (by omega) (by omega)
  exact hw19
